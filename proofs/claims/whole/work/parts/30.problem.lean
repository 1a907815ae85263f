abbrev qq_Problem_leastCost (D : va_G) (cI cZ cL cQ : ClassId) (a : Nat) (al : Nat) (am : Nat) (aw : Nat) (ac : Nat) (ag : Nat) (ab : Nat) (n : Nat) (k : Nat) (j : Nat) (lo : Nat → Int32) (hi : Nat → Int32) (co : Nat → Int32) (A : Nat → Prop) : Array Value → State → Outcome → State → Prop := va_Qi (fun (r : Int32) (u : Unit) => r = if 0 ≤ co j then co j * lo j else co j * hi j) (fun (u : Unit) t => mm_B D kc_all [(cI, .int), (cZ, .boolean), (cL, .long), (cQ, .array .int)] A [(a, .inr (0, [.int (nI n), .int (nI k), .ref al, .ref am, .ref aw, .ref ac, .ref ag, .ref ab])), (al, .inl (cI, 4, .inl lo)), (am, .inl (cI, 4, .inl hi)), (ac, .inl (cI, 4, .inl co))] t) A
set_option maxHeartbeats 4000000 in
set_option maxRecDepth 100000 in
theorem cc_Problem_leastCost (l : Launch) (D : va_G) (cI cZ cL cQ : ClassId) (sz : Nat) (a : Nat) (al : Nat) (am : Nat) (aw : Nat) (ac : Nat) (ag : Nat) (ab : Nat) (n : Nat) (k : Nat) (j : Nat) (lo : Nat → Int32) (hi : Nat → Int32) (co : Nat → Int32) (hj : j < 4) : Met l yy_Problem_leastCost ww_Problem_leastCost ({ frames := 0, cells := 0, slots := 0, locals := 0 } : Room) (mm_Pc D kc_all [(cI, .int), (cZ, .boolean), (cL, .long), (cQ, .array .int)] sz [(a, .inr (0, [.int (nI n), .int (nI k), .ref al, .ref am, .ref aw, .ref ac, .ref ag, .ref ab])), (al, .inl (cI, 4, .inl lo)), (am, .inl (cI, 4, .inl hi)), (ac, .inl (cI, 4, .inl co))] [.ref a, .int (nI j)]) (qq_Problem_leastCost D cI cZ cL cQ a al am aw ac ag ab n k j lo hi co (va_A [(a, .inr (0, [.int (nI n), .int (nI k), .ref al, .ref am, .ref aw, .ref ac, .ref ag, .ref ab])), (al, .inl (cI, 4, .inl lo)), (am, .inl (cI, 4, .inl hi)), (ac, .inl (cI, 4, .inl co))] sz)) 0 0 (va_A [(a, .inr (0, [.int (nI n), .int (nI k), .ref al, .ref am, .ref aw, .ref ac, .ref ag, .ref ab])), (al, .inl (cI, 4, .inl lo)), (am, .inl (cI, 4, .inl hi)), (ac, .inl (cI, 4, .inl co))] sz) := by
  refine Met.ofW (cc := bb_Problem_leastCost) (maxL := 2) (ret := (some .int)) (by decide) rfl ?_
  intro p e s m args below meth c s₁ B hml hv
  obtain ⟨rfl, hsz, hP, hK, hD0⟩ := hv
  have hx := B.exec
  have hb := B.bytes
  have hr := B.returns
  have hts := atoms_spec (ws := ww_Problem_leastCost) B.pre
  have hown : s.vm.findClass RR_Problem = some m.cls := findClass_of_methodNamed B.named
  have hlocks := B.notSynchronized
  subst hsz
  have hD := hD0.self (sz := s.heap.size)
  generalize hAe : va_A [(a, .inr (0, [.int (nI n), .int (nI k), .ref al, .ref am, .ref aw, .ref ac, .ref ag, .ref ab])), (al, .inl (cI, 4, .inl lo)), (am, .inl (cI, 4, .inl hi)), (ac, .inl (cI, 4, .inl co))] s.heap.size = A at hD ⊢
  have hA : ∀ q : Nat, s.heap.size ≤ q → A q := fun q h => by rw [← hAe]; exact Or.inr h
  have hS : va_S A s.heap s.heap [] := va_S.rf
  have hP : va_P D kc_all [(a, .inr (0, [.int (nI n), .int (nI k), .ref al, .ref am, .ref aw, .ref ac, .ref ag, .ref ab])), (al, .inl (cI, 4, .inl lo)), (am, .inl (cI, 4, .inl hi)), (ac, .inl (cI, 4, .inl co))] s.heap := hP
  have hl := lv_entry ([.ref a, .int (nI j)]) (n := 2) (Nat.le_of_ble_eq_true rfl)
  rw [lg_entry_eq]
  generalize (lg_sl ([.ref a, .int (nI j)]) ++ List.replicate (2 - (lg_sl ([.ref a, .int (nI j)])).length) Slot.unset).toArray = ls at hl ⊢
  have hl : lv_has ls 2 [(0, .ref a), (1, .int (nI j))] := hl
  have htb : ∀ w ∈ tb_all, w.before ([.ref a, .int (nI j)]).toArray s = true := fun w h => hts w (List.mem_cons_of_mem _ h)
  have hf_18 := htb _ fl_Problem_18
  have hf_22 := htb _ fl_Problem_22
  have hf_29 := htb _ fl_Problem_29
  refine lv_aload_n hx hb dd_Problem_leastCost_0 rfl (lv_at hl 0 rfl) ?_
  refine va_get (D := D) (ci := 0) (v := .ref ac) (C := RR_Problem) (T := FF_Problem) (N := 8) hx hb htb hi_Problem hown hK hP 0 rfl rfl 5 (by decide) hf_29 (fun _ h9 => h9) rfl dd_Problem_leastCost_1 ?_
  refine lv_iload_n hx hb dd_Problem_leastCost_4 rfl (lv_at hl 1 rfl) ?_
  refine mm_iald hx hb hK hP 3 0 rfl rfl (j) (rfl) (by omega) (by decide) dd_Problem_leastCost_5 ?_
  refine lv_if_lt (tgt := 25) hx hb dd_Problem_leastCost_6 (by decide) (fun h6 => ?_) (fun h6 => ?_)
  · skip
    refine lv_aload_n hx hb dd_Problem_leastCost_25 rfl (lv_at hl 0 rfl) ?_
    refine va_get (D := D) (ci := 0) (v := .ref ac) (C := RR_Problem) (T := FF_Problem) (N := 8) hx hb htb hi_Problem hown hK hP 0 rfl rfl 5 (by decide) hf_29 (fun _ h9 => h9) rfl dd_Problem_leastCost_26 ?_
    refine lv_iload_n hx hb dd_Problem_leastCost_29 rfl (lv_at hl 1 rfl) ?_
    refine mm_iald hx hb hK hP 3 0 rfl rfl (j) (rfl) (by omega) (by decide) dd_Problem_leastCost_30 ?_
    refine lv_aload_n hx hb dd_Problem_leastCost_31 rfl (lv_at hl 0 rfl) ?_
    refine va_get (D := D) (ci := 0) (v := .ref am) (C := RR_Problem) (T := FF_Problem) (N := 8) hx hb htb hi_Problem hown hK hP 0 rfl rfl 3 (by decide) hf_22 (fun _ h9 => h9) rfl dd_Problem_leastCost_32 ?_
    refine lv_iload_n hx hb dd_Problem_leastCost_35 rfl (lv_at hl 1 rfl) ?_
    refine mm_iald hx hb hK hP 2 0 rfl rfl (j) (rfl) (by omega) (by decide) dd_Problem_leastCost_36 ?_
    refine lv_imul hx hb dd_Problem_leastCost_37 ?_
    exact W.iret (v := ((co j) * (hi j))) hx hb hr (fun t ht hW => ⟨⟨(co j) * (hi j), (), rfl, by simp only [*, if_true, if_false, ite_true, ite_false], by rw [ht]; exact hP, va_K.moved hW.alike hK, hD⟩, hS.F ht⟩) hS.2.2 dd_Problem_leastCost_38
  · skip
    refine lv_aload_n hx hb dd_Problem_leastCost_9 rfl (lv_at hl 0 rfl) ?_
    refine va_get (D := D) (ci := 0) (v := .ref ac) (C := RR_Problem) (T := FF_Problem) (N := 8) hx hb htb hi_Problem hown hK hP 0 rfl rfl 5 (by decide) hf_29 (fun _ h9 => h9) rfl dd_Problem_leastCost_10 ?_
    refine lv_iload_n hx hb dd_Problem_leastCost_13 rfl (lv_at hl 1 rfl) ?_
    refine mm_iald hx hb hK hP 3 0 rfl rfl (j) (rfl) (by omega) (by decide) dd_Problem_leastCost_14 ?_
    refine lv_aload_n hx hb dd_Problem_leastCost_15 rfl (lv_at hl 0 rfl) ?_
    refine va_get (D := D) (ci := 0) (v := .ref al) (C := RR_Problem) (T := FF_Problem) (N := 8) hx hb htb hi_Problem hown hK hP 0 rfl rfl 2 (by decide) hf_18 (fun _ h9 => h9) rfl dd_Problem_leastCost_16 ?_
    refine lv_iload_n hx hb dd_Problem_leastCost_19 rfl (lv_at hl 1 rfl) ?_
    refine mm_iald hx hb hK hP 1 0 rfl rfl (j) (rfl) (by omega) (by decide) dd_Problem_leastCost_20 ?_
    refine lv_imul hx hb dd_Problem_leastCost_21 ?_
    refine lv_goto (tgt := 38) hx hb dd_Problem_leastCost_22 (by decide) ?_
    exact W.iret (v := ((co j) * (lo j))) hx hb hr (fun t ht hW => ⟨⟨(co j) * (lo j), (), rfl, by simp only [*, if_true, if_false, ite_true, ite_false], by rw [ht]; exact hP, va_K.moved hW.alike hK, hD⟩, hS.F ht⟩) hS.2.2 dd_Problem_leastCost_38
abbrev qq_Problem_weigh (D : va_G) (cI cZ cL cQ : ClassId) (a : Nat) (al : Nat) (am : Nat) (aw : Nat) (ac : Nat) (ag : Nat) (ab : Nat) (n : Nat) (k : Nat) (ar : Nat) (ax : Nat) (row : Nat → Int32) (x : Nat → Int32) (A : Nat → Prop) : Array Value → State → Outcome → State → Prop := va_Ql (fun (r : Int64) (u : Unit) => r = wg_sum row x n) (fun (u : Unit) t => mm_B D kc_all [(cI, .int), (cZ, .boolean), (cL, .long), (cQ, .array .int)] A [(a, .inr (0, [.int (nI n), .int (nI k), .ref al, .ref am, .ref aw, .ref ac, .ref ag, .ref ab])), (ar, .inl (cI, 4, .inl row)), (ax, .inl (cI, 4, .inl x))] t) A
set_option maxHeartbeats 4000000 in
set_option maxRecDepth 100000 in
theorem cc_Problem_weigh (l : Launch) (D : va_G) (cI cZ cL cQ : ClassId) (sz : Nat) (a : Nat) (al : Nat) (am : Nat) (aw : Nat) (ac : Nat) (ag : Nat) (ab : Nat) (n : Nat) (k : Nat) (ar : Nat) (ax : Nat) (row : Nat → Int32) (x : Nat → Int32) (hn : n ≤ 4) : Met l yy_Problem_weigh ww_Problem_weigh ({ frames := 0, cells := 0, slots := 0, locals := 0 } : Room) (mm_Pc D kc_all [(cI, .int), (cZ, .boolean), (cL, .long), (cQ, .array .int)] sz [(a, .inr (0, [.int (nI n), .int (nI k), .ref al, .ref am, .ref aw, .ref ac, .ref ag, .ref ab])), (ar, .inl (cI, 4, .inl row)), (ax, .inl (cI, 4, .inl x))] [.ref a, .ref ar, .ref ax]) (qq_Problem_weigh D cI cZ cL cQ a al am aw ac ag ab n k ar ax row x (va_A [(a, .inr (0, [.int (nI n), .int (nI k), .ref al, .ref am, .ref aw, .ref ac, .ref ag, .ref ab])), (ar, .inl (cI, 4, .inl row)), (ax, .inl (cI, 4, .inl x))] sz)) 0 0 (va_A [(a, .inr (0, [.int (nI n), .int (nI k), .ref al, .ref am, .ref aw, .ref ac, .ref ag, .ref ab])), (ar, .inl (cI, 4, .inl row)), (ax, .inl (cI, 4, .inl x))] sz) := by
  refine Met.ofW (cc := bb_Problem_weigh) (maxL := 6) (ret := (some .long)) (by decide) rfl ?_
  intro p e s m args below meth c s₁ B hml hv
  obtain ⟨rfl, hsz, hP, hK, hD0⟩ := hv
  have hx := B.exec
  have hb := B.bytes
  have hr := B.returns
  have hts := atoms_spec (ws := ww_Problem_weigh) B.pre
  have hown : s.vm.findClass RR_Problem = some m.cls := findClass_of_methodNamed B.named
  have hlocks := B.notSynchronized
  subst hsz
  have hD := hD0.self (sz := s.heap.size)
  generalize hAe : va_A [(a, .inr (0, [.int (nI n), .int (nI k), .ref al, .ref am, .ref aw, .ref ac, .ref ag, .ref ab])), (ar, .inl (cI, 4, .inl row)), (ax, .inl (cI, 4, .inl x))] s.heap.size = A at hD ⊢
  have hA : ∀ q : Nat, s.heap.size ≤ q → A q := fun q h => by rw [← hAe]; exact Or.inr h
  have hS : va_S A s.heap s.heap [] := va_S.rf
  have hP : va_P D kc_all [(a, .inr (0, [.int (nI n), .int (nI k), .ref al, .ref am, .ref aw, .ref ac, .ref ag, .ref ab])), (ar, .inl (cI, 4, .inl row)), (ax, .inl (cI, 4, .inl x))] s.heap := hP
  have hl := lv_entry ([.ref a, .ref ar, .ref ax]) (n := 6) (Nat.le_of_ble_eq_true rfl)
  rw [lg_entry_eq]
  generalize (lg_sl ([.ref a, .ref ar, .ref ax]) ++ List.replicate (6 - (lg_sl ([.ref a, .ref ar, .ref ax])).length) Slot.unset).toArray = ls at hl ⊢
  have hl : lv_has ls 6 [(0, .ref a), (1, .ref ar), (2, .ref ax)] := hl
  have htb : ∀ w ∈ tb_all, w.before ([.ref a, .ref ar, .ref ax]).toArray s = true := fun w h => hts w (List.mem_cons_of_mem _ h)
  have hf_9 := htb _ fl_Problem_9
  refine lv_lconst (v := 0) hx hb dd_Problem_weigh_0 (by decide) ?_
  refine lv_lstore_n (lv' := [(3, .long (0 : Int64)), (0, .ref a), (1, .ref ar), (2, .ref ax)]) hx hb dd_Problem_weigh_1 rfl hl (by decide) rfl (fun ls hl => ?_)
  refine lv_iconst (v := 0) hx hb dd_Problem_weigh_2 (by decide) ?_
  refine lv_istore (lv' := [(5, .int (0 : Int32)), (3, .long (0 : Int64)), (0, .ref a), (1, .ref ar), (2, .ref ax)]) hx hb dd_Problem_weigh_3 hl (by decide) rfl (fun ls hl => ?_)
  have J5 : ∀ (N : Nat) (j : Nat), (n - j) < N → ∀ (hj : j ≤ n), ∀ (ls : Array Slot) (H : Heap) (locs : List Loc), lv_has ls 6 [(0, .ref a), (1, .ref ar), (2, .ref ax), (3, .long (wg_sum row x j)), (5, .int (nI j))] → va_P D kc_all [(a, .inr (0, [.int (nI n), .int (nI k), .ref al, .ref am, .ref aw, .ref ac, .ref ag, .ref ab])), (ar, .inl (cI, 4, .inl row)), (ax, .inl (cI, 4, .inl x))] H → va_D A [(a, .inr (0, [.int (nI n), .int (nI k), .ref al, .ref am, .ref aw, .ref ac, .ref ag, .ref ab])), (ar, .inl (cI, 4, .inl row)), (ax, .inl (cI, 4, .inl x))] → va_S A s.heap H locs → W p l e (headSpec ww_Problem_weigh ({ frames := 0, cells := 0, slots := 0, locals := 0 } : Room)).room s m ([.ref a, .ref ar, .ref ax]).toArray below meth c H locs 0 0 (MQ below (qq_Problem_weigh D cI cZ cL cQ a al am aw ac ag ab n k ar ax row x A) ([.ref a, .ref ar, .ref ax]).toArray s 0 0 A) (F0 m 5 ls []) := by
    intro N
    induction N with
    | zero => intro j hN9; exact absurd hN9 (Nat.not_lt_zero _)
    | succ N IH5 =>
      intro j hN9 hj ls H locs hl hP hD hS
      refine lv_iload hx hb dd_Problem_weigh_5 (lv_at hl 4 rfl) ?_
      refine lv_aload_n hx hb dd_Problem_weigh_7 rfl (lv_at hl 0 rfl) ?_
      refine va_get (D := D) (ci := 0) (v := .int (nI n)) (C := RR_Problem) (T := FF_Problem) (N := 8) hx hb htb hi_Problem hown hK hP 0 rfl rfl 0 (by decide) hf_9 (fun _ h9 => h9) rfl dd_Problem_weigh_8 ?_
      refine lv_icmp_ge (tgt := 34) hx hb dd_Problem_weigh_11 (by decide) (fun h11 => ?_) (fun h11 => ?_)
      · skip
        have h11 : n ≤ j := (nI_leI (a := n) (b := j) (by omega) (by omega)).mp h11
        refine lv_lload_n hx hb dd_Problem_weigh_34 rfl (lv_at hl 3 rfl) ?_
        exact W.lret (v := (wg_sum row x j)) hx hb hr (fun t ht hW => ⟨⟨wg_sum row x j, (), rfl, by rw [show n = j by omega], by rw [ht]; exact hP, va_K.moved hW.alike hK, hD⟩, hS.F ht⟩) hS.2.2 dd_Problem_weigh_35
      · skip
        have h11 : ¬ (n ≤ j) := fun q9 => h11 ((nI_leI (a := n) (b := j) (by omega) (by omega)).mpr q9)
        refine lv_lload_n hx hb dd_Problem_weigh_14 rfl (lv_at hl 3 rfl) ?_
        refine lv_aload_n hx hb dd_Problem_weigh_15 rfl (lv_at hl 1 rfl) ?_
        refine lv_iload hx hb dd_Problem_weigh_16 (lv_at hl 4 rfl) ?_
        refine mm_iald hx hb hK hP 1 0 rfl rfl (j) (rfl) (by omega) (by decide) dd_Problem_weigh_18 ?_
        refine lv_i2l (v := (row j).toInt64) hx hb dd_Problem_weigh_19 rfl ?_
        refine lv_aload_n hx hb dd_Problem_weigh_20 rfl (lv_at hl 2 rfl) ?_
        refine lv_iload hx hb dd_Problem_weigh_21 (lv_at hl 4 rfl) ?_
        refine mm_iald hx hb hK hP 2 0 rfl rfl (j) (rfl) (by omega) (by decide) dd_Problem_weigh_23 ?_
        refine lv_i2l (v := (x j).toInt64) hx hb dd_Problem_weigh_24 rfl ?_
        refine lv_lmul hx hb dd_Problem_weigh_25 ?_
        refine lv_ladd hx hb dd_Problem_weigh_26 ?_
        refine lv_lstore_n (lv' := [(3, .long ((wg_sum row x j) + (((row j).toInt64) * ((x j).toInt64)))), (0, .ref a), (1, .ref ar), (2, .ref ax), (5, .int (nI j))]) hx hb dd_Problem_weigh_27 rfl hl (by decide) rfl (fun ls hl => ?_)
        refine lv_iinc (k := 4) (v := nI (j + 1)) (lv' := [(5, .int (nI (j + 1))), (3, .long ((wg_sum row x j) + (((row j).toInt64) * ((x j).toInt64)))), (0, .ref a), (1, .ref ar), (2, .ref ax)]) hx hb dd_Problem_weigh_28 hl rfl (nI_1 _) (by decide) rfl (fun ls hl => ?_)
        refine lv_goto (tgt := 5) hx hb dd_Problem_weigh_31 (by decide) ?_
        exact IH5 (j + 1) (by omega) (by omega) ls H locs (lv_sub hl [2, 3, 4, 1, 0] rfl) hP hD hS
  exact J5 _ 0 (Nat.lt_succ_self _) (by omega) ls _ _ (lv_sub hl [2, 3, 4, 1, 0] rfl) hP hD hS
