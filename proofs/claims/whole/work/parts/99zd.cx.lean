/-! rows for constructors: arrays of a class that is known, int[6][4], what a nest mate's constructor and such an array ask of the state -/
section CX1
variable {p : Program} {l : Launch} {e : Env} {R : Room} {s : State} {m : MethodId} {args : Array Value} {below : List Frame} {meth : Method} {c : Code} {H : Heap} {locs : List Loc} {cells slots : Nat} {Q : State → Prop}
variable {cc : ByteArray} {pc : Nat} {ls : Array Slot} {rest : List Value} {D : va_G} {cl : List vw_C} {A : Nat → Prop} {tys : List (ClassId × FieldType)} {ws : va_W} {H0 : Heap}
theorem mm_newa (hexec : p.tables.exec = Jvm.exec) (hb : c.code = cc) {atype : ArrayType} (harr : (Cond.arrayClass (newarray.typeOf atype)).before args s = true) {ty : FieldType} (hty : newarray.typeOf atype = ty) (hK : va_K D cl tys s) (hP : va_P D cl ws H) (hD : va_D A ws) (hS : va_S A H0 H locs) (hA : ∀ q, H0.size ≤ q → A q)
    (t0 : Nat) {cA : ClassId} (ht : tys[t0]? = some (cA, ty)) {n : Int32} {N' : Nat} {a0 : vp_A} (ha : ∀ cA : ClassId, vp_cell cA a0 = arrV cA N' (fun _ => defaultValue ty)) (hn : ¬ n < 0) (hN : n.toNatClampNeg = N') (hbytes : N' * componentBytes ty ≤ 536870912) (hcells : cells + 1 ≤ R.cells) (hslots : slots + N' ≤ R.slots) (hdg : decode cc pc = .ok (.newarray atype, 2))
    (kk : ∀ (q : Nat) (H1 : Heap), va_P D cl (ws ++ [(q, .inl (cA, a0))]) H1 → va_D A (ws ++ [(q, .inl (cA, a0))]) → va_S A H0 H1 locs →
      W p l e R s m args below meth c H1 locs (cells + 1) (slots + N') Q (F0 m (pc + 2) ls (.ref q :: rest))) : W p l e R s m args below meth c H locs cells slots Q (F0 m pc ls (.int n :: rest)) := by
  refine va_newa hexec hb harr hty hK hP hD hS hA ha hn hN hbytes hcells hslots hdg (fun q cB H1 hK1 hP1 hD1 hS1 => ?_)
  have h1 := (hK.2 t0 _ ht).2
  have h2 := (hK1.2 tys.length (cB, ty) (by simp)).2
  have he : cB = cA := by
    subst hty
    cases atype <;> exact Option.some.inj ((show s.vm.findClass _ = some cB from h2).symm.trans (show s.vm.findClass _ = some cA from h1))
  subst he
  exact kk q H1 hP1 hD1 hS1
theorem mm_multi (hexec : p.tables.exec = Jvm.exec) (hb : c.code = cc) {own : String} {index : Nat} (hown : s.vm.findClass own = some m.cls) (hclink : (Cond.classLink own index "[[I").before args s = true) (hover : (Cond.arrayOver (.array .int)).before args s = true) (harr : (Cond.arrayClass .int).before args s = true)
    (hK : va_K D cl tys s) (hP : va_P D cl ws H) (hD : va_D A ws) (hS : va_S A H0 H locs) (hA : ∀ q, H0.size ≤ q → A q) (t0 t1 : Nat) {cI cQ : ClassId} (ht0 : tys[t0]? = some (cI, .int)) (ht1 : tys[t1]? = some (cQ, .array .int))
    (hcells : cells + (1 + 6) ≤ R.cells) (hslots : slots + (6 + 6 * 4) ≤ R.slots) (hdg : decode cc pc = .ok (.multianewarray index 2, 4))
    (kk : ∀ (q : Nat) (H1 : Heap), va_P D cl (ws ++ [(q, .inl (cQ, 6, .inr (.inr (.inr (.inr (fun i9 => some (q + 1 + i9))))))), (q + 1 + 0, .inl (cI, 4, .inl (fun _ => 0))), (q + 1 + 1, .inl (cI, 4, .inl (fun _ => 0))), (q + 1 + 2, .inl (cI, 4, .inl (fun _ => 0))), (q + 1 + 3, .inl (cI, 4, .inl (fun _ => 0))), (q + 1 + 4, .inl (cI, 4, .inl (fun _ => 0))), (q + 1 + 5, .inl (cI, 4, .inl (fun _ => 0)))]) H1 →
      va_D A (ws ++ [(q, .inl (cQ, 6, .inr (.inr (.inr (.inr (fun i9 => some (q + 1 + i9))))))), (q + 1 + 0, .inl (cI, 4, .inl (fun _ => 0))), (q + 1 + 1, .inl (cI, 4, .inl (fun _ => 0))), (q + 1 + 2, .inl (cI, 4, .inl (fun _ => 0))), (q + 1 + 3, .inl (cI, 4, .inl (fun _ => 0))), (q + 1 + 4, .inl (cI, 4, .inl (fun _ => 0))), (q + 1 + 5, .inl (cI, 4, .inl (fun _ => 0)))]) → va_S A H0 H1 locs →
      W p l e R s m args below meth c H1 locs (cells + 7) (slots + 30) Q (F0 m (pc + 4) ls (.ref q :: rest))) : W p l e R s m args below meth c H locs cells slots Q (F0 m pc ls (.int 4 :: .int 6 :: rest)) := by
  intro T hT X
  subst hb
  obtain ⟨vm₁, cA, comp, hW, hfA, hfC, X1, step⟩ := cz_row X hexec (own := own) (index := index) hown hclink hover harr (g := F0 m pc ls (.int 4 :: .int 6 :: rest)) rfl hdg (rest := rest) rfl (by omega) (by omega)
  have e1 : cA = cQ := Option.some.inj (hfA.symm.trans (show s.vm.findClass _ = some cQ from (hK.2 t1 _ ht1).2))
  have e0 : comp = cI := Option.some.inj (hfC.symm.trans (show s.vm.findClass _ = some cI from (hK.2 t0 _ ht0).2))
  subst e1; subst e0
  obtain ⟨⟨f1, f3, -⟩, f2, f4, f5⟩ := cz_fa cA comp (T.setVm vm₁) 6
  generalize hF : cz_st cA comp (T.setVm vm₁) 6 = F at f1 f2 f3 f4 f5
  have hTH : (T.setVm vm₁).heap = H := hT
  rw [hTH] at f1 f2 f4 f5
  have hout : cz_ot cA H.size 6 = vp_cell cA (6, .inr (.inr (.inr (.inr (fun i9 => some (H.size + 1 + i9)))))) := rfl
  have hinn : cz_in comp = vp_cell comp (4, .inl (fun _ => 0)) := rfl
  rw [hout] at f2
  rw [hinn] at f5
  have hkept : ∀ (k : Nat) (x : Nat × va_E), ws[k]? = some x → F.heap[x.1]? = H[x.1]? := fun k x hx => f4 x.1 ((hP k x hx).lt)
  have hP1 : va_P D cl (ws ++ [(H.size, .inl (cA, 6, .inr (.inr (.inr (.inr (fun i9 => some (H.size + 1 + i9))))))), (H.size + 1 + 0, .inl (comp, 4, .inl (fun _ => 0))), (H.size + 1 + 1, .inl (comp, 4, .inl (fun _ => 0))), (H.size + 1 + 2, .inl (comp, 4, .inl (fun _ => 0))), (H.size + 1 + 3, .inl (comp, 4, .inl (fun _ => 0))), (H.size + 1 + 4, .inl (comp, 4, .inl (fun _ => 0))), (H.size + 1 + 5, .inl (comp, 4, .inl (fun _ => 0)))]) F.heap := by
    refine (hP.kept hkept).app (fun k x hx => ?_)
    have hz : k < 7 := (List.getElem?_eq_some_iff.mp hx).1
    rcases (show k = 0 ∨ k = 1 ∨ k = 2 ∨ k = 3 ∨ k = 4 ∨ k = 5 ∨ k = 6 by omega) with rfl | rfl | rfl | rfl | rfl | rfl | rfl <;> cases hx
    · exact f2
    · exact f5 0 (by decide)
    · exact f5 1 (by decide)
    · exact f5 2 (by decide)
    · exact f5 3 (by decide)
    · exact f5 4 (by decide)
    · exact f5 5 (by decide)
  have hD1 : va_D A (ws ++ [(H.size, .inl (cA, 6, .inr (.inr (.inr (.inr (fun i9 => some (H.size + 1 + i9))))))), (H.size + 1 + 0, .inl (comp, 4, .inl (fun _ => 0))), (H.size + 1 + 1, .inl (comp, 4, .inl (fun _ => 0))), (H.size + 1 + 2, .inl (comp, 4, .inl (fun _ => 0))), (H.size + 1 + 3, .inl (comp, 4, .inl (fun _ => 0))), (H.size + 1 + 4, .inl (comp, 4, .inl (fun _ => 0))), (H.size + 1 + 5, .inl (comp, 4, .inl (fun _ => 0)))]) := by
    refine hD.app ⟨fun i j x y hx hy hxy => ?_, fun k x hx => ?_⟩ (fun i j x y hx hy => ?_)
    · have hz : i < 7 := (List.getElem?_eq_some_iff.mp hx).1
      have hw : j < 7 := (List.getElem?_eq_some_iff.mp hy).1
      rcases (show i = 0 ∨ i = 1 ∨ i = 2 ∨ i = 3 ∨ i = 4 ∨ i = 5 ∨ i = 6 by omega) with rfl | rfl | rfl | rfl | rfl | rfl | rfl <;> cases hx <;>
        (rcases (show j = 0 ∨ j = 1 ∨ j = 2 ∨ j = 3 ∨ j = 4 ∨ j = 5 ∨ j = 6 by omega) with rfl | rfl | rfl | rfl | rfl | rfl | rfl <;> cases hy <;> first | rfl | (exfalso; (try dsimp only at hxy); omega))
    · have hz : k < 7 := (List.getElem?_eq_some_iff.mp hx).1
      refine hA _ (Nat.le_trans hS.1 ?_)
      rcases (show k = 0 ∨ k = 1 ∨ k = 2 ∨ k = 3 ∨ k = 4 ∨ k = 5 ∨ k = 6 by omega) with rfl | rfl | rfl | rfl | rfl | rfl | rfl <;> cases hx <;> simp <;> omega
    · have h1 := (hP i x hx).lt
      have hw : j < 7 := (List.getElem?_eq_some_iff.mp hy).1
      rcases (show j = 0 ∨ j = 1 ∨ j = 2 ∨ j = 3 ∨ j = 4 ∨ j = 5 ∨ j = 6 by omega) with rfl | rfl | rfl | rfl | rfl | rfl | rfl <;> cases hy <;> simp <;> omega
  obtain ⟨t, a1, b1⟩ := kk H.size F.heap hP1 hD1 ⟨Nat.le_trans hS.1 (by omega), fun x h1 h2 => (f4 x (Nat.lt_of_lt_of_le h1 hS.1)).trans (hS.2.1 x h1 h2), hS.2.2⟩ F rfl (by rw [← hF]; exact X1)
  refine ⟨t, step t ?_, b1⟩
  rw [hT]
  show Steps p.tables e below ((cz_st cA comp (T.setVm vm₁) 6).setTop _) t
  rw [hF]
  exact a1
end CX1
def cx_nest : List Cond := [.methodLinkNest "AmountPlanner" 11 yy_Problem_init "AmountPlanner", .methodLinkNest "AmountPlanner" 18 yy_Minors_init "AmountPlanner", .methodLinkNest "AmountPlanner" 25 yy_Search_init "AmountPlanner", .methodLinkNest "AmountPlanner" 32 yy_Tree_init "AmountPlanner", .methodLinkNest "AmountPlanner" 39 yy_Proof_init "AmountPlanner", .methodLinkNest "AmountPlanner" 46 yy_Box_init "AmountPlanner"]
def cx_Tr (U : State) : Prop := (∀ w ∈ cx_nest, va_Nw w U) ∧ (Cond.arrayOver (.array .int)).before #[] U = true
theorem cx_over {u U : State} (hvm : u.vm.Alike U.vm) (h : (Cond.arrayOver (.array .int)).before #[] u = true) : (Cond.arrayOver (.array .int)).before #[] U = true := by
  unfold Cond.before Cond.holds at h ⊢
  simp only [Cond.value, beq_iff_eq] at h ⊢
  rw [hvm.findClass]
  cases hc : u.vm.findClass (FieldType.array .int).toString with
  | none => simp [hc] at h
  | some comp =>
    simp only [hc, Option.bind_some, Option.bind_eq_some_iff, Option.map_eq_some_iff] at h ⊢
    obtain ⟨c, hi, k, hk, hb⟩ := h
    obtain ⟨k', hk', he⟩ := hvm.2.2 _ _ hk
    refine ⟨c, ?_, k', hk', ?_⟩
    · refine (va_idx_bare U.vm comp).symm.trans ?_
      first | rw [hvm.bare_eq] | rw [← hvm.bare_eq]
      exact (va_idx_bare u.vm comp).trans hi
    · have hkk : k'.kind = k.kind := by rw [he]
      rw [hkk]
      simp only [hvm.findClass]
      exact hb
theorem cx_move {s U : State} (hW : s.WarmedH U.vm) (h : cx_Tr s) : cx_Tr U := by
  refine ⟨fun w hw => ?_, cx_over hW.alike h.2⟩
  have h1 := h.1 w hw
  simp only [cx_nest, List.mem_cons, List.not_mem_nil, or_false] at hw
  rcases hw with rfl | rfl | rfl | rfl | rfl | rfl <;> exact va_Nw.warmM hW h1
def cx_Pc (D : va_G) (cl : List vw_C) (tys : List (ClassId × FieldType)) (sz : Nat) (w : va_W) (av : List Value) : Array Value → State → Prop := va_Pc av (fun U => U.heap.size = sz ∧ va_P D cl w U.heap ∧ va_K D cl tys U ∧ va_D (fun _ => True) w ∧ cx_Tr U)
theorem cx_blind {D : va_G} {cl : List vw_C} {tys : List (ClassId × FieldType)} {sz : Nat} {w : va_W} {av : List Value} : FrameBlind (cx_Pc D cl tys sz w av) := by
  intro a U g mk q
  obtain ⟨q0, q1, qP, qK, qD, qT⟩ := q
  exact ⟨q0, q1, qP, va_K.moved (u := U) (U := U.calling g mk a) (Vm.Alike.refl U.vm) qK, qD, cx_move (s := U) (U := U.calling g mk a) (State.WarmedH.refl U) qT⟩
theorem cx_preS {D : va_G} {cl : List vw_C} {tys : List (ClassId × FieldType)} {A : Nat → Prop} {s : State} {H : Heap} {ws wc : va_W} {As : List Value} (hTr : cx_Tr s) (hK : va_K D cl tys s) (hP : va_P D cl ws H) (hD : va_D A ws) (isC : List Nat) (hn : va_nd isC = true) (hC : isC.map (fun i => ws[i]?) = wc.map some) : PreS s H (cx_Pc D cl tys H.size wc As) As := by
  have hC2 : isC.filterMap (fun i => ws[i]?) = wc := by
    have h1 : (isC.map (fun i => ws[i]?)).filterMap id = (wc.map some).filterMap id := by rw [hC]
    simpa [List.filterMap_map] using h1
  exact ⟨cx_blind, fun U hU hW => ⟨rfl, by rw [hU], by rw [hU]; exact hP.sub isC hC2, va_K.moved hW.alike hK, (hD.sub isC hn hC).weaken (fun _ _ _ _ => trivial), cx_move hW hTr⟩⟩
theorem oi_im : Cond.instanceMethod Lib.objectInit ∈ tb_all := by decide +kernel
theorem oi_cd : Cond.code Lib.objectInit ⟨#[0xb1]⟩ 1 none ∈ tb_all := by decide +kernel
theorem oi_Planner : Cond.methodLink RR_Planner 3 Lib.objectInit ∈ tb_all := by decide +kernel
theorem oi_Model : Cond.methodLink RR_Model 1 Lib.objectInit ∈ tb_all := by decide +kernel
theorem oi_Box : Cond.methodLink RR_Box 3 Lib.objectInit ∈ tb_all := by decide +kernel
theorem oi_Minors : Cond.methodLink RR_Minors 3 Lib.objectInit ∈ tb_all := by decide +kernel
theorem oi_Problem : Cond.methodLink RR_Problem 3 Lib.objectInit ∈ tb_all := by decide +kernel
theorem oi_Proof : Cond.methodLink RR_Proof 5 Lib.objectInit ∈ tb_all := by decide +kernel
theorem oi_Search : Cond.methodLink RR_Search 3 Lib.objectInit ∈ tb_all := by decide +kernel
theorem oi_Tree : Cond.methodLink RR_Tree 3 Lib.objectInit ∈ tb_all := by decide +kernel
theorem ac_int : Cond.arrayClass .int ∈ tb_all := by decide +kernel
theorem ac_boolean : Cond.arrayClass .boolean ∈ tb_all := by decide +kernel
theorem ac_long : Cond.arrayClass .long ∈ tb_all := by decide +kernel
theorem it_Problem : Cond.instantiable RR_Problem 8 ∈ tb_all := by decide +kernel
theorem it_Minors : Cond.instantiable RR_Minors 1 ∈ tb_all := by decide +kernel
theorem it_Search : Cond.instantiable RR_Search 8 ∈ tb_all := by decide +kernel
theorem it_Tree : Cond.instantiable RR_Tree 7 ∈ tb_all := by decide +kernel
theorem it_Proof : Cond.instantiable RR_Proof 3 ∈ tb_all := by decide +kernel
theorem it_Box : Cond.instantiable RR_Box 5 ∈ tb_all := by decide +kernel
theorem it_Planner : Cond.instantiable RR_Planner 9 ∈ tb_all := by decide +kernel
theorem it_Model : Cond.instantiable RR_Model 30 ∈ tb_all := by decide +kernel
theorem kc_Planner_9 : Cond.classLink "AmountPlanner" 9 RR_Problem ∈ tb_all := by decide +kernel
theorem kc_Planner_16 : Cond.classLink "AmountPlanner" 16 RR_Minors ∈ tb_all := by decide +kernel
theorem kc_Planner_23 : Cond.classLink "AmountPlanner" 23 RR_Search ∈ tb_all := by decide +kernel
theorem kc_Planner_30 : Cond.classLink "AmountPlanner" 30 RR_Tree ∈ tb_all := by decide +kernel
theorem kc_Planner_37 : Cond.classLink "AmountPlanner" 37 RR_Proof ∈ tb_all := by decide +kernel
theorem kc_Planner_44 : Cond.classLink "AmountPlanner" 44 RR_Box ∈ tb_all := by decide +kernel
theorem kc_Problem_32 : Cond.classLink "AmountPlanner$Problem" 32 "[[I" ∈ tb_all := by decide +kernel
theorem wh_1s : ∀ j9, j9 < 4 → upd (upd (upd (upd (fun _ => (0 : Int32)) 0 1) 1 1) 2 1) 3 1 j9 = 1 := by
  intro j hj
  rcases (show j = 0 ∨ j = 1 ∨ j = 2 ∨ j = 3 by omega) with rfl | rfl | rfl | rfl <;> simp [upd]
