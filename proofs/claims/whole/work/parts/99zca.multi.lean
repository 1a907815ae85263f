/-! int[6][4]: the words that it asks for, and how the machine makes it -/
theorem cz_over {args : Array Value} {s : State} (h : (Cond.arrayOver (.array .int)).before args s = true) : ∃ (cI cQ : ClassId) (kQ : Class), s.vm.findClass (FieldType.array .int).toString = some cI ∧ s.vm.classes[cQ]? = some kQ ∧ kQ.kind = .array cI (.array .int) ∧ s.vm.findClass ("[" ++ (FieldType.array .int).toString) = some cQ := by
  unfold Cond.before Cond.holds at h
  simp only [Cond.value, beq_iff_eq, Option.bind_eq_some_iff, Option.map_eq_some_iff] at h
  obtain ⟨cI, h1, cQ, h2, kQ, h3, h4⟩ := h
  have h5 := (Array.findIdx?_eq_some_iff_getElem.mp h2).2.1
  rw [(Array.getElem?_eq_some_iff.mp h3).2] at h5
  refine ⟨cI, cQ, kQ, h1, h3, ?_⟩
  revert h4 h5
  cases kQ.kind with
  | array a t =>
    intro h4 h5
    rw [Bool.and_eq_true] at h4
    have e1 := of_decide_eq_true h4.1
    have e2 : a = cI := eq_of_beq h5
    exact ⟨by rw [e1, e2], of_decide_eq_true h4.2⟩
  | _ => intro h4; cases h4
def cz_in (cI : ClassId) : Cell := { cls := cI, slots := Array.replicate 4 (.int 0) }
/-- the outer array, its first i cells filled: the inner ones lie behind it -/
def cz_ot (cQ : ClassId) (h : Nat) : Nat → Cell
  | 0 => { cls := cQ, slots := Array.replicate 6 .null }
  | i + 1 => (cz_ot cQ h i).setSlot i (.ref (h + 1 + i))
def cz_st (cQ cI : ClassId) (S : State) : Nat → State
  | 0 => S.pushCell (cz_ot cQ S.heap.size 0)
  | i + 1 => ((cz_st cQ cI S i).pushCell (cz_in cI)).setCell S.heap.size (cz_ot cQ S.heap.size (i + 1))
theorem cz_of (cQ : ClassId) (h : Nat) : ∀ i, (cz_ot cQ h i).cls = cQ ∧ (cz_ot cQ h i).vm = .none ∧ (cz_ot cQ h i).slots.size = 6
  | 0 => ⟨rfl, rfl, Array.size_replicate⟩
  | i + 1 => by
    have q := cz_of cQ h i
    refine ⟨q.1, q.2.1, ?_⟩
    show ((cz_ot cQ h i).slots.setIfInBounds i _).size = 6
    rw [Array.size_setIfInBounds]; exact q.2.2
theorem cz_fa (cQ cI : ClassId) (S : State) : ∀ i, ((cz_st cQ cI S i).heap.size = S.heap.size + 1 + i ∧ (cz_st cQ cI S i).vm = S.vm ∧ (cz_st cQ cI S i).slotsUsed = S.slotsUsed + 6 + i * 4) ∧ (cz_st cQ cI S i).heap[S.heap.size]? = some (cz_ot cQ S.heap.size i) ∧
    (∀ a, a < S.heap.size → (cz_st cQ cI S i).heap[a]? = S.heap[a]?) ∧ ∀ j, j < i → (cz_st cQ cI S i).heap[S.heap.size + 1 + j]? = some (cz_in cI)
  | 0 => by
    refine ⟨⟨?_, rfl, ?_⟩, ?_, fun a ha => State.heap_pushCell_of_lt _ _ ha, fun j h => absurd h (Nat.not_lt_zero _)⟩
    · simp [cz_st]
    · simp [cz_st, cz_ot]
    · simp [cz_st]
  | i + 1 => by
    obtain ⟨⟨q1, q2, q3⟩, q4, q5, q6⟩ := cz_fa cQ cI S i
    have up : ∀ a, a < S.heap.size + 1 + i → ((cz_st cQ cI S i).pushCell (cz_in cI)).heap[a]? = (cz_st cQ cI S i).heap[a]? := fun a ha => State.heap_pushCell_of_lt _ _ (by rw [q1]; exact ha)
    have top : ((cz_st cQ cI S i).pushCell (cz_in cI)).heap[S.heap.size + 1 + i]? = some (cz_in cI) := by
      rw [← q1]; exact State.heap_pushCell_size _ _
    have off : ∀ a, S.heap.size ≠ a → (cz_st cQ cI S (i + 1)).heap[a]? = ((cz_st cQ cI S i).pushCell (cz_in cI)).heap[a]? := fun a ha => State.heap_setCell_other ha
    refine ⟨⟨?_, ?_, ?_⟩, State.heap_setCell_self ((up _ (by omega)).trans q4), fun a ha => ?_, fun j hj => ?_⟩
    · simp [cz_st, State.setCell, q1]; omega
    · simp [cz_st, q2]
    · simp [cz_st, q3, cz_in]; omega
    · rw [off a (by omega), up a (by omega)]; exact q5 a ha
    · rw [off _ (by omega)]
      by_cases z : j = i
      · rw [z]; exact top
      · rw [up _ (by omega)]; exact q6 j (by omega)
theorem cz_tp (cQ cI : ClassId) (S : State) (f : JFrame) : ∀ i, cz_st cQ cI (S.setTop f) i = (cz_st cQ cI S i).setTop f
  | 0 => rfl
  | i + 1 => by
    show ((cz_st cQ cI (S.setTop f) i).pushCell (cz_in cI)).setCell (S.setTop f).heap.size _ = _
    rw [cz_tp cQ cI S f i, State.heap_setTop, State.pushCell_setTop, State.setCell_setTop]; rfl
section CZ1
variable {p : Program} {l : Launch} {e : Env} {R : Room} {s : State} {m : MethodId} {args : Array Value} {below : List Frame} {meth : Method} {c : Code} {T : State} {locs : List Loc} {cells slots : Nat}
theorem cz_sd (X : Stand p l e R s m args below meth c T locs cells slots) (cQ cI : ClassId) : ∀ i, Stand p l e R s m args below meth c (cz_st cQ cI T i) locs (cells + 1 + i) (slots + 6 + i * 4)
  | 0 => by
    have h := X.pushed (cz_ot cQ T.heap.size 0)
    rw [(cz_of cQ T.heap.size 0).2.2] at h
    exact h
  | i + 1 => by
    obtain ⟨⟨q1, -, -⟩, q4, -, -⟩ := cz_fa cQ cI T i
    have hc : ((cz_st cQ cI T i).pushCell (cz_in cI)).heap[T.heap.size]? = some (cz_ot cQ T.heap.size i) := (State.heap_pushCell_of_lt _ _ (show T.heap.size < (cz_st cQ cI T i).heap.size by rw [q1]; omega)).trans q4
    have h := (((cz_sd X cQ cI i).pushed (cz_in cI)).stored hc i (.ref (T.heap.size + 1 + i))).dropFresh (fun x hx => by
      rw [List.mem_singleton.mp hx]; exact X.heapGrown)
    rw [show (cz_in cI).slots.size = 4 from Array.size_replicate, show slots + 6 + i * 4 + 4 = slots + 6 + (i + 1) * 4 by omega] at h
    exact h
end CZ1
section CZ2
variable {E : CtlPost} {e : Env} {d : Bool} {acts : List Action} {S : State}
theorem cz_w1 {cI cc : ClassId} {kI : Class} (hk : S.vm.classes[cI]? = some kI) (hkind : kI.kind = .array cc .int) (h1 : 4 ≤ e.platform.arrayLengthLimit) (h2 : 16 ≤ e.platform.maxHeapBytes) (h3 : S.heap.size < e.platform.maxCells) (h4 : S.slotsUsed + 4 ≤ e.platform.maxSlots) {Q : Addr → Pre} (hq : ∀ a, Q S.heap.size d a (S.pushCell (cz_in cI))) : wp (Op.multianewarray.make cI [4]) Q E e d acts S := by
  rw [Op.multianewarray.make]
  simp only [wp_bind', W.ite, show ¬ (4 : Int32) < 0 by decide, if_false, wp_pure', W.theClass, hk, hkind, Option.some.injEq, exists_eq_left']
  exact W.newArray_of hk hkind (by show ¬ 4 > _; omega) (by show ¬ 4 * 4 > _; omega) h3 h4 rfl (fun a => hq a)
theorem cz_w2 {cQ cI cc : ClassId} {kQ kI : Class} (hkQ : S.vm.classes[cQ]? = some kQ) (hkindQ : kQ.kind = .array cI (.array .int)) (hk : S.vm.classes[cI]? = some kI) (hkind : kI.kind = .array cc .int) (h1 : 6 ≤ e.platform.arrayLengthLimit) (h2 : 24 ≤ e.platform.maxHeapBytes) (h3 : S.heap.size + 7 ≤ e.platform.maxCells) (h4 : S.slotsUsed + 30 ≤ e.platform.maxSlots) {Q : Addr → Pre} (hq : ∀ d' a, Q S.heap.size d' a (cz_st cQ cI S 6)) : wp (Op.multianewarray.make cQ [6, 4]) Q E e d acts S := by
  rw [Op.multianewarray.make]
  simp only [wp_bind', W.ite, show ¬ (6 : Int32) < 0 by decide, if_false, wp_pure', W.theClass, hkQ, hkindQ, Option.some.injEq, exists_eq_left']
  refine W.newArray_of hkQ hkindQ (by show ¬ 6 > _; omega) (by show ¬ 6 * 4 > _; omega) (by omega) (by show _ + 6 ≤ _; omega) rfl (fun acts1 => ?_)
  rw [show ((6 : Int32) == 0) = false by decide]
  simp only [Bool.false_eq_true, if_false, wp_bind', wp_pure', Std.Legacy.Range.forIn_eq_forIn_range']
  refine wp_forIn_inv (fun rest u => ∃ i, i ≤ 6 ∧ rest = (List.range 6).drop i ∧ u = cz_st cQ cI S i) _ _ ⟨0, Nat.zero_le _, rfl, rfl⟩ (fun x rest u d1 a1 Q1 hI hnext => ?_) (fun u d1 a1 hI => ?_)
  · obtain ⟨i, hi, er, rfl⟩ := hI
    have hi6 : i < 6 := by
      rcases Nat.lt_or_ge i 6 with z | z
      · exact z
      · rw [show i = 6 by omega, show List.drop 6 (List.range 6) = [] by decide] at er; cases er
    rw [List.drop_eq_getElem_cons (by simpa using hi6)] at er
    obtain ⟨ex, er2⟩ := List.cons.inj er
    have ex2 : x = i := by rw [ex]; simp
    subst ex2
    obtain ⟨⟨q1, q2, q3⟩, q4, -, -⟩ := cz_fa cQ cI S x
    obtain ⟨o1, o2, o3⟩ := cz_of cQ S.heap.size x
    simp only [wp_bind']
    refine cz_w1 (by rw [q2]; exact hk) hkind (by omega) (by omega) (by rw [q1]; omega) (by rw [q3]; omega) (fun a2 => ?_)
    simp only [wp_bind', W.writeLoc, wp_pure']
    refine ⟨cz_ot cQ S.heap.size x, (State.heap_pushCell_of_lt _ _ (show S.heap.size < (cz_st cQ cI S x).heap.size by rw [q1]; omega)).trans q4, (by rw [o2]; simp), (by rw [o3]; exact hi6), ?_, hnext _ _ _ ⟨x + 1, hi6, er2, by rw [q1]; rfl⟩⟩
    rw [o1, o2]
    simp [State.fitsSlot, State.slotType?, q2, hkQ, hkindQ, fits]
  · obtain ⟨i, hi, er, rfl⟩ := hI
    have e6 : i = 6 := by
      rcases Nat.lt_or_ge i 6 with z | z
      · rw [List.drop_eq_getElem_cons (by simpa using z)] at er; cases er
      · omega
    subst e6
    exact hq _ _
end CZ2
section CZ3
variable {p : Program} {l : Launch} {e : Env} {R : Room} {s : State} {m : MethodId} {args : Array Value} {below : List Frame} {meth : Method} {c : Code} {T : State} {locs : List Loc} {cells slots : Nat}
theorem cz_row (X : Stand p l e R s m args below meth c T locs cells slots) (hexec : p.tables.exec = Jvm.exec) {own : String} {index : Nat} (hown : s.vm.findClass own = some m.cls) (hclink : (Cond.classLink own index "[[I").before args s = true) (hover : (Cond.arrayOver (.array .int)).before args s = true) (harr : (Cond.arrayClass .int).before args s = true)
    {g : JFrame} (hg : g.method = m) (hdg : decode c.code g.pc = .ok (.multianewarray index 2, 4)) {rest : List Value} (hstack : g.stack = .int 4 :: .int 6 :: rest) (hcells : cells + 7 ≤ R.cells) (hslots : slots + 30 ≤ R.slots) :
    ∃ (vm₁ : Vm) (cQ cI : ClassId), s.WarmedH vm₁ ∧ s.vm.findClass ("[" ++ (FieldType.array .int).toString) = some cQ ∧ s.vm.findClass (FieldType.array .int).toString = some cI ∧ Stand p l e R s m args below meth c (cz_st cQ cI (T.setVm vm₁) 6) locs (cells + 1 + 6) (slots + 6 + 6 * 4) ∧
      ∀ target, Steps p.tables e below ((cz_st cQ cI (T.setVm vm₁) 6).setTop { g with pc := g.pc + 4, stack := .ref T.heap.size :: rest }) target → Steps p.tables e below (T.setTop g) target := by
  subst hg
  obtain ⟨cI, cQ, kQ, f1, f2, f3, f4⟩ := cz_over hover
  obtain ⟨cJ, kI, cc, g1, g2, g3⟩ := Cond.arrayClass_spec harr
  have eJ : cJ = cI := Option.some.inj ((show s.vm.findClass (FieldType.array .int).toString = some cJ from g1).symm.trans f1)
  subst eJ
  obtain ⟨cR, r1, r2⟩ := Cond.classLink_spec hown hclink e.platform (by rw [X.admits.platform])
  have eR : cR = cQ := Option.some.inj (r1.symm.trans (show s.vm.findClass "[[I" = some cQ from f4))
  subst eR
  obtain ⟨w1, w2, w3⟩ := State.classEntry (e := e) X.warmed r2
  generalize T.vm.noted g.method.cls index (.cls cR) = V at w1 w2 w3
  obtain ⟨kQ1, a1, a2⟩ := w2.alike.2.2 _ _ f2
  obtain ⟨kI1, b1, b2⟩ := w2.alike.2.2 _ _ g2
  have XV := cz_sd (X.noted w2) cR cJ 6
  obtain ⟨m1, m2⟩ := X.roomAbove hcells hslots
  refine ⟨V, cR, cJ, w2, f4, f1, XV, fun target hgo => ?_⟩
  jvm_step X.here [hexec, hdg]
  simp only [Op.multianewarray.sem, wp_bind', W.resolveClassAt_links (State.method?_setTop g X.here.top) w1]
  rw [W.popN, if_neg (by decide)]
  refine ⟨g, State.topJava?_setTop' (s := T.setVm V) g X.here.top, [.int 6, .int 4], rest, rfl, hstack, ?_⟩
  simp only [List.mapM_cons, List.mapM_nil, wp_bind', wp_pure']
  have l1 := Launch.admits_arrayLengthLimit X.admits
  have l2 := Launch.admits_maxHeapBytes X.admits
  refine cz_w2 (kQ := kQ1) (kI := kI1) (cI := cJ) (cc := cc) a1 (by rw [a2]; exact f3) b1 (by rw [b2]; exact g3) (by rw [l1]; omega) (by rw [l2]; omega) (by show T.heap.size + 7 ≤ _; exact m1) (by show T.slotsUsed + 30 ≤ _; exact m2) (fun d1 a3 => ?_)
  have eS : ((T.setTop g).setVm V).setTop { g with stack := rest } = (T.setVm V).setTop { g with stack := rest } := State.setTop_setTop (T.setVm V) g _
  rw [eS, cz_tp]
  simp only [wp_bind', W.mark, W.pushRef, State.topJava?_setTop' _ XV.here.top, Option.some.injEq, exists_eq_left', State.setTop_setTop, State.heap_setTop]
  intro acts
  simp [jvm, XV.here.top]
  exact hgo
end CZ3
