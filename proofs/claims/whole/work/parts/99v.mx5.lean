/-! refused calls: the contract of a method that throws, pure calls before the throw, a callee's throw passed on, a callee's throw caught -/
abbrev mx_A (n : Nat) : Nat → Prop := fun q => n ≤ q
theorem mx_A0 {n q : Nat} (h : va_A [] n q) : n ≤ q := by
  rcases h with ⟨k, e, h⟩ | h
  · simp at h
  · exact h
theorem mx_weak {A : Nat → Prop} {H0 H : Heap} {locs : List Loc} (hA : ∀ q, H0.size ≤ q → A q) (h : va_S (mx_A H0.size) H0 H locs) : va_S A H0 H locs :=
  ⟨h.1, fun q h1 _ => h.2.1 q h1 (fun z => Nat.not_lt.mpr z h1), fun q hq => hA _ (h.2.2 q hq)⟩
theorem mx_old {H0 H : Heap} {locs : List Loc} (h : va_S (mx_A H0.size) H0 H locs) (q : Nat) (hq : q < H0.size) : H[q]? = H0[q]? := h.2.1 q hq (fun z => Nat.not_lt.mpr z hq)
theorem mx_Pkept {D : va_G} {cl : List vw_C} {ws : va_W} {H H1 : Heap} (h : va_P D cl ws H) (hk : ∀ q : Nat, q < H.size → H1[q]? = H[q]?) : va_P D cl ws H1 := by
  refine h.kept (fun k q hq => hk _ ?_)
  have h1 := h k q hq
  unfold va_at at h1
  obtain ⟨a, e⟩ := q
  cases e with
  | inl x => exact (Array.getElem?_eq_some_iff.mp h1).1
  | inr x =>
    obtain ⟨r, -, h2⟩ := h1
    obtain ⟨cell, h3, -⟩ := h2
    exact (Array.getElem?_eq_some_iff.mp h3).1
def mx_Pc (D : va_G) (cl : List vw_C) (tys : List (ClassId × FieldType)) (sz : Nat) (w : va_W) (av : List Value) : Array Value → State → Prop := va_Pc av (fun U => U.heap.size = sz ∧ va_P D cl w U.heap ∧ va_K D cl tys U ∧ va_D (fun _ => True) w ∧ mx_Tr U)
theorem mx_blind {D : va_G} {cl : List vw_C} {tys : List (ClassId × FieldType)} {sz : Nat} {w : va_W} {av : List Value} : FrameBlind (mx_Pc D cl tys sz w av) := by
  intro a U g mk q
  obtain ⟨q0, q1, qP, qK, qD, qT⟩ := q
  exact ⟨q0, q1, qP, va_K.moved (u := U) (U := U.calling g mk a) (Vm.Alike.refl U.vm) qK, qD, mx_Tr_move (s := U) (U := U.calling g mk a) (State.WarmedH.refl U) (fun _ _ h _ => h) qT⟩
theorem mx_preS {D : va_G} {cl : List vw_C} {tys : List (ClassId × FieldType)} {A : Nat → Prop} {s : State} {H : Heap} {locs : List Loc} {ws wc : va_W} {As : List Value} (hTr : mx_Tr s) (hS0 : va_S (mx_A s.heap.size) s.heap H locs) (hK : va_K D cl tys s) (hP : va_P D cl ws H) (hD : va_D A ws) (isC : List Nat) (hn : va_nd isC = true) (hC : isC.map (fun i => ws[i]?) = wc.map some) : PreS s H (mx_Pc D cl tys H.size wc As) As := by
  have hC2 : isC.filterMap (fun i => ws[i]?) = wc := by
    have h1 : (isC.map (fun i => ws[i]?)).filterMap id = (wc.map some).filterMap id := by rw [hC]
    simpa [List.filterMap_map] using h1
  exact ⟨mx_blind, fun U hU hW => ⟨rfl, by rw [hU], by rw [hU]; exact hP.sub isC hC2, va_K.moved hW.alike hK, (hD.sub isC hn hC).weaken (fun _ _ _ _ => trivial),
    mx_Tr_move hW (fun q c hq _ => by rw [hU, mx_old hS0 q (Array.getElem?_eq_some_iff.mp hq).1]; exact hq) hTr⟩⟩
theorem mx_preV {D : va_G} {cl : List vw_C} {tys : List (ClassId × FieldType)} {A : Nat → Prop} {s : State} {H : Heap} {locs : List Loc} {ws wc : va_W} {As : List Value} {b ci : Nat} {q : vw_C} {fs : List Value} (hTr : mx_Tr s) (hS0 : va_S (mx_A s.heap.size) s.heap H locs) (hK : va_K D cl tys s) (hP : va_P D cl ws H) (hD : va_D A ws) (isC : List Nat) (hn : va_nd isC = true) (hC : isC.map (fun i => ws[i]?) = wc.map some) (q0 : Nat) (he : ws[q0]? = some (b, .inr (ci, fs))) (hc : cl[ci]? = some q) : PreV s H q.1 b (mx_Pc D cl tys H.size wc (.ref b :: As)) As :=
  ⟨mx_blind, va_recv hK hP hc he, (mx_preS hTr hS0 hK hP hD isC hn hC).2⟩
/-- the contract's end of a refused call -/
def mx_Xq (px : String → Prop) : Array Value → State → Outcome → State → Prop := fun _ st o t => mx_X px st o t
section MX6
variable {p : Program} {l : Launch} {e : Env} {R : Room} {s : State} {m : MethodId} {args : Array Value} {below : List Frame} {meth : Method} {c : Code} {H : Heap} {locs : List Loc} {cells slots : Nat} {Q : State → Prop}
variable {pc : Nat} {ls : Array Slot} {rest st0 : List Value} {a : Array Value} {A1 : Nat → Prop} {mc ms : Nat} {free : Addr → Prop} {px px1 : String → Prop} {D : va_G} {cl : List vw_C} {ws : va_W}
theorem mx_pi {S : Type} {post : Int32 → S → Prop} {B : S → State → Prop} (hr : va_Run p l e R s m args below meth c H locs cells slots mc ms (F0 m pc ls st0) rest (va_Qi post B A1 a) A1) (hA1 : ∀ q, A1 q → H.size ≤ q) (hP : va_P D cl ws H) (hS0 : va_S (mx_A s.heap.size) s.heap H locs)
    (kk : ∀ (r : Int32) (u : S) (H1 : Heap) (locs1 : List Loc), post r u → va_P D cl ws H1 → va_S (mx_A s.heap.size) s.heap H1 locs1 → W p l e R s m args below meth c H1 locs1 (cells + mc) (slots + ms) Q (F0 m (pc + 3) ls (.int r :: rest))) : W p l e R s m args below meth c H locs cells slots Q (F0 m pc ls st0) :=
  va_calli hr hS0 (fun q h1 h => absurd (hA1 q h) (Nat.not_le.mpr h1)) (fun q h => Nat.le_trans hS0.1 (hA1 q h)) (fun r u _ H1 locs1 _ _ hp _ _ hk1 hS1 => kk r u H1 locs1 hp (mx_Pkept hP (fun q hq => hk1 q hq (fun z => Nat.not_lt.mpr (hA1 q z) hq))) hS1)
theorem mx_pv {S : Type} {post : S → Prop} {B : S → State → Prop} (hr : va_Run p l e R s m args below meth c H locs cells slots mc ms (F0 m pc ls st0) rest (va_Qv post B A1 a) A1) (hA1 : ∀ q, A1 q → H.size ≤ q) (hP : va_P D cl ws H) (hS0 : va_S (mx_A s.heap.size) s.heap H locs)
    (kk : ∀ (u : S) (H1 : Heap) (locs1 : List Loc), post u → va_P D cl ws H1 → va_S (mx_A s.heap.size) s.heap H1 locs1 → W p l e R s m args below meth c H1 locs1 (cells + mc) (slots + ms) Q (F0 m (pc + 3) ls rest)) : W p l e R s m args below meth c H locs cells slots Q (F0 m pc ls st0) :=
  va_callv hr hS0 (fun q h1 h => absurd (hA1 q h) (Nat.not_le.mpr h1)) (fun q h => Nat.le_trans hS0.1 (hA1 q h)) (fun u _ H1 locs1 _ _ hp _ _ hk1 hS1 => kk u H1 locs1 hp (mx_Pkept hP (fun q hq => hk1 q hq (fun z => Nat.not_lt.mpr (hA1 q z) hq))) hS1)
/-- the continuation where a callee throws, from its run -/
theorem mx_thr (hr : mx_Run p l e R s m args below meth c H locs cells slots mc ms (F0 m pc ls st0) rest (mx_Xq px a) free) {A0 : Nat → Prop} {H0 : Heap} (hS : va_S A0 H0 H locs) (hf : ∀ q, free q → A0 q)
    (kx : mx_K p l e R s m args below meth c H (cells + mc) (slots + ms) Q (F0 m pc ls rest) A0 H0 px) : W p l e R s m args below meth c H locs cells slots Q (F0 m pc ls st0) := by
  intro T hT X
  obtain ⟨st₀, t, T', L, o, h0, ha0, X', hL, e1, e2, hq, hend⟩ := hr T hT X
  obtain ⟨E, x, ce, hv, hp, hce, hcv, hcl, hz, hk⟩ := hq
  subst hv
  rcases hend with ⟨v, ho, st⟩ | ⟨x, ho, st⟩
  · cases ho
  · cases ho
    rw [h0] at hz hk
    have hk' : ∀ q : Nat, q < H.size → ¬ (fun _ => False) q → t.heap[q]? = H[q]? := fun q h1 _ => hk q h1
    obtain ⟨t2, a1, b1⟩ := kx E x ce T'.heap (locs ++ L) hp (by rw [e1]; exact hce) hcv (by rw [← hcl]; exact (ha0.findClass E _).symm) (by rw [e1]; exact hz) (fun q h1 => by rw [e1]; exact hk q h1) (by rw [e1]; exact mx_S (A1 := fun _ => False) hS hz hk' (fun _ _ z => z.elim) hf hL) T' rfl X'
    exact ⟨t2, st.trans a1, b1⟩
/-- the callee's throw passed on -/
theorem mx_pass (hr : mx_Run p l e R s m args below meth c H locs cells slots mc ms (F0 m pc ls st0) rest (mx_Xq px1 a) free) (hS0 : va_S (mx_A s.heap.size) s.heap H locs) (hf : ∀ q, free q → H.size ≤ q) (he : c.exceptionTable.isEmpty = true) (hlocks : meth.locks = false) (hpx : ∀ E, px1 E → px E) :
    W p l e R s m args below meth c H locs cells slots (mx_MQ below (mx_Xq px) args s (cells + mc) (slots + ms) (mx_A s.heap.size)) (F0 m pc ls st0) := by
  refine mx_thr hr hS0 (fun q h => Nat.le_trans hS0.1 (hf q h)) (fun E x ce H1 locs1 hp hce hcv hcl hz hk hS1 => ?_)
  exact mx_out he hlocks (fun t ht _ => ⟨E, x, ce, rfl, hpx E hp, by rw [ht]; exact hce, hcv, hcl, by rw [ht]; exact hS1.1, fun q hq => by rw [ht]; exact mx_old hS1 q hq⟩) hS1.2.2
/-- the callee's throw caught: the world is as it was -/
theorem mx_cat {hh : List (Nat × Nat × Nat × Nat)} (htab : c.exceptionTable.toList.map (fun h => (h.startPc, h.endPc, h.handlerPc, h.catchType)) = hh) (pre : List (Nat × Nat × Nat × Nat)) (z : Nat × Nat × Nat × Nat) (rst : List (Nat × Nat × Nat × Nat)) (hsplit : hh = pre ++ z :: rst)
    (hr : mx_Run p l e R s m args below meth c H locs cells slots mc ms (F0 m pc ls st0) rest (mx_Xq px a) (mx_A H.size)) {A : Nat → Prop} (hS : va_S A s.heap H locs) (hA : ∀ q, s.heap.size ≤ q → A q) (hP : va_P D cl ws H)
    {own E nz : String} (hown : s.vm.findClass own = some m.cls) (hpx : ∀ E', px E' → E' = E)
    (hpre : ∀ y ∈ pre, (y.1 ≤ pc ∧ pc < y.2.1) ∧ y.2.2.2 ≠ 0 ∧ ∃ nm, (Cond.classLink own y.2.2.2 nm).before args s = true ∧ (Cond.not (.castable E nm)).before args s = true)
    (hz : (z.1 ≤ pc ∧ pc < z.2.1) ∧ z.2.2.2 ≠ 0) (hzl : (Cond.classLink own z.2.2.2 nz).before args s = true) (hzc : (Cond.castable E nz).before args s = true)
    (kk : ∀ (x : Addr) (H1 : Heap) (locs1 : List Loc), va_P D cl ws H1 → va_S A s.heap H1 locs1 → W p l e R s m args below meth c H1 locs1 (cells + mc) (slots + ms) Q (F0 m z.2.2.1 ls [.ref x])) : W p l e R s m args below meth c H locs cells slots Q (F0 m pc ls st0) := by
  refine mx_thr hr hS (fun q h => hA q (Nat.le_trans hS.1 h)) (fun E' x ce H1 locs1 hp hce hcv hcl hz1 hk hS1 => ?_)
  cases hpx E' hp
  exact mx_catch htab pre z rst hsplit hown hce hcv hcl hpre hz hzl hzc (kk x H1 locs1 (mx_Pkept hP hk) hS1)
end MX6
/-- a method with a table of handlers that only returns: the table comes with the body -/
theorem mx_MetW {l : Launch} {y : MethodName} {ws ws' : List Cond} {rm : Room} {Pc : Array Value → State → Prop} {Qc : Array Value → State → Outcome → State → Prop} {mc ms : Nat} {free : Addr → Prop} {cc : ByteArray} {maxL : Nat} {ret : Option FieldType} {hh : List (Nat × Nat × Nat × Nat)}
    (hy : plainName y.cls = true) (hw : ws = Cond.codeWith y cc maxL ret hh :: ws')
    (body : ∀ p e s m args below meth c s₁, BodyLoose p l y (headSpec ws rm) cc maxL ret e s m args below meth c s₁ → c.maxLocals = maxL → c.exceptionTable.toList.map (fun h => (h.startPc, h.endPc, h.handlerPc, h.catchType)) = hh → Pc args s →
      W p l e (headSpec ws rm).room s m args below meth c s.heap [] 0 0 (MQ below Qc args s mc ms free) (entryFrame m args maxL)) : Met l y ws rm Pc Qc mc ms free := by
  refine va_MetW hy hw (fun p e s m args below meth c s₁ B hml hP => body p e s m args below meth c s₁ B hml ?_ hP)
  obtain ⟨m9, meth9, c9, hn9, h1, h2, -, -, h3, -⟩ := Cond.codeWith_spec (atoms_spec (ws := ws) B.pre _ (by rw [hw]; exact List.mem_cons_self))
  cases B.named.symm.trans hn9
  cases B.method.symm.trans h1
  cases (Stand.of_body B).code.symm.trans h2
  exact h3
