/-! catching: a row's class may be linked first; rows that are passed, the row that takes the object -/
section MX5
theorem mx_go {Qh : Handler → Pre} {Ec : CtlPost} {e : Env} {d : Bool} {acts : List Action} {S : State} {f : JFrame} {a : Addr} {x : ExceptionTableEntry} {t : List ExceptionTableEntry} {k : ClassId} {cell : Cell} (hx : covers x f.pc = true) (h0 : x.catchType ≠ 0)
    (hl : S.vm.ClassLinks e.platform f.method.cls x.catchType k) (hcell : S.heap[a]? = some cell) (hv : cell.vm = .none) (hk : ∃ z, S.vm.classes[cell.cls]? = some z) (hc : ∃ z, S.vm.classes[k]? = some z) :
    wp (findHandler.go f a (x :: t)) Qh Ec e d acts S ↔
      (if S.vm.assignable cell.cls k = true then Qh (.found x.handlerPc) d acts (S.setVm (S.vm.noted f.method.cls x.catchType (.cls k))) else wp (findHandler.go f a t) Qh Ec e d acts (S.setVm (S.vm.noted f.method.cls x.catchType (.cls k)))) := by
  have hal : S.vm.Alike (S.vm.noted f.method.cls x.catchType (.cls k)) := (Vm.Alike.refl S.vm).noted _ _ _
  obtain ⟨z1, hz1⟩ := hk
  obtain ⟨z2, hz2⟩ := hc
  obtain ⟨w1, hw1, -⟩ := hal.2.2 _ _ hz1
  obtain ⟨w2, hw2, -⟩ := hal.2.2 _ _ hz2
  have has : (S.vm.noted f.method.cls x.catchType (.cls k)).assignable cell.cls k = S.vm.assignable cell.cls k := hal.assignable _ _
  obtain ⟨g1, g2⟩ := (resolveClass_links e.toSetting hl).op (op := VmOp.resolveClass f.method.cls x.catchType) rfl
  simp only [covers] at hx
  cases hfit : S.vm.assignable cell.cls k with
  | true =>
    rw [hfit] at has
    simp [findHandler.go, hx, h0, g1, g2, hcell, hv, hw1, hw2, has, VmOp.dirties, VmOp.acts]
  | false =>
    rw [hfit] at has
    simp [findHandler.go, hx, h0, g1, g2, hcell, hv, hw1, hw2, has, VmOp.dirties, VmOp.acts]
theorem mx_goes {e : Env} {s : State} {f : JFrame} {a : Addr} {cell : Cell} (hv : cell.vm = .none) (hk : ∃ z, s.vm.classes[cell.cls]? = some z) (x : ExceptionTableEntry) (rest : List ExceptionTableEntry)
    (hx : covers x f.pc = true) (h0 : x.catchType ≠ 0) {k : ClassId} (hl : s.vm.ClassLinks e.platform f.method.cls x.catchType k) (hfit : s.vm.assignable cell.cls k = true) :
    ∀ (pre : List ExceptionTableEntry) (S : State), s.WarmedH S.vm → S.heap[a]? = some cell → (∀ y ∈ pre, covers y f.pc = true ∧ y.catchType ≠ 0 ∧ ∃ k, s.vm.ClassLinks e.platform f.method.cls y.catchType k ∧ s.vm.assignable cell.cls k = false) →
      ∃ vm', s.WarmedH vm' ∧ ∀ (Qh : Handler → Pre) (Ec : CtlPost) (d : Bool) (acts : List Action), wp (findHandler.go f a (pre ++ x :: rest)) Qh Ec e d acts S ↔ Qh (.found x.handlerPc) d acts (S.setVm vm') := by
  intro pre
  induction pre with
  | nil =>
    intro S hW hcell _
    obtain ⟨z1, hz1⟩ := hk
    obtain ⟨w1, hw1, -⟩ := hW.alike.2.2 _ _ hz1
    obtain ⟨dk, _, _, kt, hd, _, _, _, _, hkt, _, hopen⟩ := hl.here
    obtain ⟨w2, hw2, -⟩ := hW.alike.2.2 _ _ hkt
    refine ⟨_, hW.noted hd hopen (State.rightAt_cls hl), fun Qh Ec d acts => ?_⟩
    rw [List.nil_append, mx_go hx h0 (hW.classLinks hl) hcell hv ⟨w1, hw1⟩ ⟨w2, hw2⟩, if_pos (by rw [hW.alike.assignable]; exact hfit)]
  | cons y ys ih =>
    intro S hW hcell hp
    obtain ⟨hy, hy0, ky, hly, hno⟩ := hp y List.mem_cons_self
    obtain ⟨z1, hz1⟩ := id hk
    obtain ⟨w1, hw1, -⟩ := hW.alike.2.2 _ _ hz1
    obtain ⟨dk, _, _, kt, hd, _, _, _, _, hkt, _, hopen⟩ := hly.here
    obtain ⟨w2, hw2, -⟩ := hW.alike.2.2 _ _ hkt
    obtain ⟨vm', hW', hq⟩ := ih (S.setVm (S.vm.noted f.method.cls y.catchType (.cls ky))) (hW.noted hd hopen (State.rightAt_cls hly)) hcell (fun z hz => hp z (List.mem_cons_of_mem _ hz))
    refine ⟨vm', hW', fun Qh Ec d acts => ?_⟩
    rw [List.cons_append, mx_go hy hy0 (hW.classLinks hly) hcell hv ⟨w1, hw1⟩ ⟨w2, hw2⟩, if_neg (by rw [hW.alike.assignable, hno]; decide)]
    exact hq Qh Ec d acts
theorem mx_step {e : Env} {S : State} {a : Addr} {f : JFrame} {r : List Frame} {pc : Nat} {vm' : Vm} (hfind : ∀ (Qh : Handler → Pre) (Ec : CtlPost) (d : Bool) (acts : List Action), wp (findHandler f a) Qh Ec e d acts S ↔ Qh (.found pc) d acts (S.setVm vm')) :
    (stepThrowing e S a (.java f :: r)).1 = (S.setVm vm').setFrames (.java { f with pc := pc, stack := [.ref a] } :: r) := by
  simp only [stepThrowing, searchFrame, vmDo]
  generalize hr : Sem.go _ e false [] S = res
  obtain ⟨as, rfl, -⟩ := Sem.eq_ok_of hr (a := Handler.found pc) (s' := S.setVm vm') (acts' := []) (by simp [hfind])
  rfl
variable {p : Program} {l : Launch} {e : Env} {R : Room} {s : State} {m : MethodId} {args : Array Value} {below : List Frame} {meth : Method} {c : Code} {H : Heap} {locs : List Loc} {cells slots : Nat} {Q : State → Prop}
theorem mx_catch {hh : List (Nat × Nat × Nat × Nat)} (htab : c.exceptionTable.toList.map (fun h => (h.startPc, h.endPc, h.handlerPc, h.catchType)) = hh) (pre : List (Nat × Nat × Nat × Nat)) (z : Nat × Nat × Nat × Nat) (rest : List (Nat × Nat × Nat × Nat)) (hsplit : hh = pre ++ z :: rest)
    {own E nz : String} (hown : s.vm.findClass own = some m.cls) {x : Addr} {ce : Cell} (hce : H[x]? = some ce) (hcv : ce.vm = .none) (hcl : s.vm.findClass E = some ce.cls) {pc : Nat}
    (hpre : ∀ y ∈ pre, (y.1 ≤ pc ∧ pc < y.2.1) ∧ y.2.2.2 ≠ 0 ∧ ∃ nm, (Cond.classLink own y.2.2.2 nm).before args s = true ∧ (Cond.not (.castable E nm)).before args s = true)
    (hz : (z.1 ≤ pc ∧ pc < z.2.1) ∧ z.2.2.2 ≠ 0) (hzl : (Cond.classLink own z.2.2.2 nz).before args s = true) (hzc : (Cond.castable E nz).before args s = true)
    {ls : Array Slot} {st0 : List Value} (kk : W p l e R s m args below meth c H locs cells slots Q (F0 m z.2.2.1 ls [.ref x])) :
    mx_Th p l e R s m args below meth c H locs cells slots Q (F0 m pc ls st0) x := by
  intro T hT X
  rw [hsplit] at htab
  obtain ⟨pre', r1, hs1, hpre', h2⟩ := List.map_eq_append_iff.mp htab
  obtain ⟨z', rest', hs2, hz', -⟩ := List.map_eq_cons_iff.mp h2
  rw [hs2] at hs1
  have hpl : e.platform.magicAccessors = ({} : Platform).magicAccessors := by rw [X.admits.platform]
  obtain ⟨kz, hkz, hlz⟩ := Cond.classLink_spec hown hzl e.platform hpl
  obtain ⟨c3, c4, hc3, hc4, hasg⟩ := Cond.castable_spec hzc
  cases hcl.symm.trans hc3
  cases hkz.symm.trans hc4
  have ez : (z'.startPc, z'.endPc, z'.handlerPc, z'.catchType) = z := hz'
  subst ez
  have hk : ∃ w, s.vm.classes[ce.cls]? = some w := by
    obtain ⟨_, _, _, kt, _, _, _, _, _, hkt, _, _⟩ := hlz.here
    exact Vm.classAt_of_assignable hasg ⟨kt, hkt⟩
  obtain ⟨vm', hW', hq⟩ := mx_goes (e := e) (s := s) (f := F0 m pc ls st0) (a := x) hcv hk z' rest' (by simp [covers]; exact hz.1) hz.2 hlz hasg pre' ((T.setTop (F0 m pc ls st0)).pushFrame (.throwing x)) X.warmed (by rw [Stand.throwing_heap, hT]; exact hce)
    (fun y hy => by
      obtain ⟨h1, h2, nm, h3, h4⟩ := hpre (y.startPc, y.endPc, y.handlerPc, y.catchType) (by rw [← hpre']; exact List.mem_map_of_mem hy)
      obtain ⟨ky, hky, hly⟩ := Cond.classLink_spec hown h3 e.platform hpl
      have hv := Cond.holds_not_iff.mp h4
      simp only [Cond.value, hcl, hky] at hv
      exact ⟨by simp [covers]; exact h1, h2, ky, hly, Option.some.inj hv⟩)
  have hfind : ∀ (Qh : Handler → Pre) (Ec : CtlPost) (d : Bool) (acts : List Action), wp (findHandler (F0 m pc ls st0) x) Qh Ec e d acts ((T.setTop (F0 m pc ls st0)).pushFrame (.throwing x)) ↔ Qh (.found z'.handlerPc) d acts (((T.setTop (F0 m pc ls st0)).pushFrame (.throwing x)).setVm vm') := by
    intro Qh Ec d acts
    rw [W.findHandler_eq (meth := meth) (code := c) (by rw [Stand.throwing_vm]; exact X.method') X.code, hs1]
    exact hq Qh Ec d acts
  obtain ⟨t, a1, b1⟩ := kk (T.setVm vm') hT (X.noted hW')
  refine ⟨t, ?_, b1⟩
  have h : At T (F0 m pc ls st0).method c below := X.here
  obtain ⟨hgo, hw⟩ := h.throwing (g := F0 m pc ls st0) x
  refine Steps.head hgo hw ?_
  obtain ⟨g₀, hfr⟩ := X.frames_eq
  rw [stepThread_throwing (frames_entered h.top _), mx_step hfind]
  have hr' : (T.setVm vm').frames = .java g₀ :: below := hfr
  rw [State.setTop_of_frames _ hr'] at a1
  have hcur : T.cur < T.threads.size := State.cur_lt_of_frames hfr
  rw [hfr, State.pushFrame, State.setTop_of_frames _ hfr, State.setFrames_setFrames]
  show Steps p.tables e below (((T.setVm vm').setFrames _).setFrames _) t
  rw [State.setFrames_setFrames]
  exact a1
end MX5
