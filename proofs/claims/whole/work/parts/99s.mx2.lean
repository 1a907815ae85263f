/-! calls that may throw, through the instruction; a throw of the method's own; catching -/
section MX2
variable {p : Program} {l : Launch} {e : Env} {R : Room} {s : State} {m : MethodId} {args : Array Value} {below : List Frame} {meth : Method} {c : Code} {H : Heap} {locs : List Loc} {cells slots : Nat} {Q : State → Prop}
variable {y : MethodName} {bytes cc : ByteArray} {maxL nL mc ms n index : Nat} {ret : Option FieldType} {ws : List Cond} {rm : Room} {Pc : Array Value → State → Prop} {Qc : Array Value → State → Outcome → State → Prop} {free : Addr → Prop} {Ts : List Cond} {own C : String} {b : Addr} {As rest : List Value} {g : JFrame}
theorem mx_runS (S : CallFix p m c cc nL s args Ts own) (hM : mx_Met l y ws rm Pc Qc mc ms free) (cw : CallB R s args own index y bytes maxL ret ws rm mc ms n ∧ (Cond.static y).before args s = true) (hp : PreS s H Pc As)
    (hg : g.method = m) (hn : As.length = n) (hsize : g.locals.size = nL) (hstack : g.stack = As.reverse ++ rest) (hW : 2 * g.monitorRoom + (rest.map fun v => v.category).sum ≤ 8) (hdg : decode cc g.pc = .ok (.invokestatic index, 3)) (hf : cells + mc ≤ R.cells ∧ slots + ms ≤ R.slots) :
    mx_Run p l e R s m args below meth c H locs cells slots mc ms g rest (Qc As.toArray) free := by
  obtain ⟨⟨hrc, hrs, hfr, hlo, hws, hcw, hcode, hini, hy, hlen, hl⟩, hstt⟩ := cw
  obtain ⟨hx, hb, hml, ho, -⟩ := S
  intro T hT X
  obtain ⟨mk, hnamed⟩ := Cond.code_named hcode
  obtain ⟨methM, cM, hmethM, hcM, -, hlM, -, -, -, hsigM⟩ := Cond.code_spec hnamed hcode
  obtain ⟨kP, hkP, -⟩ := className_of_methodNamed hnamed
  have hst : methM.isStatic = true := Cond.static_spec hnamed hmethM hstt
  have hinitP : kP.init = .initialized := Cond.initialized_spec (findClass_of_methodNamed hnamed) hkP hini
  obtain ⟨vm₁, X₁, hstep₁⟩ := X.invokestatic hx ho hl hnamed hmethM hst hkP hinitP hy (g := g) hg (argsL := As) (rest := rest) (hn.trans (hlen _ hsigM)) hstack (by rw [hb]; exact hdg)
  have hal := X₁.warmed.alike
  obtain ⟨t, T', L, o, X', hL, e1, e2, hq, hend⟩ := mx_inv X₁ hM (g := { g with stack := rest }) hg (hsize.trans hml.symm) (ig := .invokestatic index) (by rw [hb]; exact hdg) hW (a := As.toArray) (X₁.named hnamed)
    (methY := methM) (cY := cM) (maxL := maxL) (by rw [hal.method?]; exact hmethM) hcM hlM (word_at X₁.warmed (Or.inl rfl) hini) (fun w hw => hws w hw _ _ X₁.warmed) hrc hrs hfr hlo hf.1 hf.2 (hp.1 _ _ _ _ (hp.2 (T.setVm vm₁) hT X₁.warmed))
  refine ⟨(T.setVm vm₁).calling { g with stack := rest } mk As.toArray, t, T', L, o, hT, hal, X', hL, e1, e2, hq, ?_⟩
  rcases hend with ⟨v, ho, st⟩ | ⟨x, ho, st⟩
  · exact Or.inl ⟨v, ho, hstep₁ _ fun acts => by rw [doInvoke_state]; exact st⟩
  · exact Or.inr ⟨x, ho, hstep₁ _ fun acts => by rw [doInvoke_state]; exact st⟩
theorem mx_runV (S : CallFix p m c cc nL s args Ts own) (hM : mx_Met l y ws rm Pc Qc mc ms free) (cw : CallW R s args own C index y bytes maxL ret ws rm mc ms n) (hp : PreV s H C b Pc As)
    (hg : g.method = m) (hn : As.length = n) (hsize : g.locals.size = nL) (hstack : g.stack = As.reverse ++ .ref b :: rest) (hW : 2 * g.monitorRoom + (rest.map fun v => v.category).sum ≤ 8) (hdg : decode cc g.pc = .ok (.invokevirtual index, 3)) (hf : cells + mc ≤ R.cells ∧ slots + ms ≤ R.slots) :
    mx_Run p l e R s m args below meth c H locs cells slots mc ms g rest (Qc (Value.ref b :: As).toArray) free := by
  obtain ⟨⟨hrc, hrs, hfr, hlo, hws, hcw, hcode, hini, hy, hlen, hl⟩, hin, hse⟩ := cw
  obtain ⟨hx, hb, hml, ho, -⟩ := S
  obtain ⟨hbl, ⟨cellB, hcB, hoB, hclB⟩, hPc⟩ := hp
  intro T hT X
  obtain ⟨mk, methM, hnamed, hmethM, hstM, habM⟩ := Cond.instanceMethod_spec hin
  obtain ⟨methM', cM, hmethM', hcM, -, hlM, -, -, -, hsigM⟩ := Cond.code_spec hnamed hcode
  cases hmethM.symm.trans hmethM'
  obtain ⟨c2, r2, m2, q1, q2, q3, q4, kP, hkP, hkPi⟩ := Cond.selects_spec hse
  cases hclB.symm.trans q1
  cases (State.methodFound?_of_named hnamed hy).symm.trans q2
  cases hnamed.symm.trans q3
  have hselP : selectMethod e.platform s.vm cellB.cls mk = .method mk := by rw [Launch.admits_selectMethod X.admits]; exact q4
  obtain ⟨vm₁, X₁, hstep₁⟩ := X.invokevirtual hx ho hl hnamed hmethM hstM hkP hkPi hy (a := b) (cell := cellB) (by rw [hT]; exact hcB)
    (fun z h => by rw [h] at hoB; cases hoB) hselP hmethM habM hkP hkPi (g := g) hg (argsL := As) (rest := rest) (hn.trans (hlen _ hsigM)) hstack (by rw [hb]; exact hdg)
  have hal := X₁.warmed.alike
  obtain ⟨t, T', L, o, X', hL, e1, e2, hq, hend⟩ := mx_inv X₁ hM (g := { g with stack := rest }) hg (hsize.trans hml.symm) (ig := .invokevirtual index) (by rw [hb]; exact hdg) hW (a := (Value.ref b :: As).toArray) (X₁.named hnamed)
    (methY := methM) (cY := cM) (maxL := maxL) (by rw [hal.method?]; exact hmethM) hcM hlM (word_at X₁.warmed (Or.inl rfl) hini) (fun w hw => hws w hw _ _ X₁.warmed) hrc hrs hfr hlo hf.1 hf.2 (hbl _ _ _ _ (hPc (T.setVm vm₁) hT X₁.warmed))
  refine ⟨(T.setVm vm₁).calling { g with stack := rest } mk (Value.ref b :: As).toArray, t, T', L, o, hT, hal, X', hL, e1, e2, hq, ?_⟩
  rcases hend with ⟨v, ho, st⟩ | ⟨x, ho, st⟩
  · exact Or.inl ⟨v, ho, hstep₁ _ fun acts => by rw [doInvoke_state]; exact st⟩
  · exact Or.inr ⟨x, ho, hstep₁ _ fun acts => by rw [doInvoke_state]; exact st⟩
end MX2
/-- the end by a throw: nothing that was there has changed, and the object is of a class that px allows -/
def mx_X (px : String → Prop) (st : State) (o : Outcome) (t : State) : Prop :=
  ∃ (E : String) (x : Addr) (ce : Cell), o = .threw x ∧ px E ∧ t.heap[x]? = some ce ∧ ce.vm = .none ∧ st.vm.findClass E = some ce.cls ∧ st.heap.size ≤ t.heap.size ∧ ∀ q : Nat, q < st.heap.size → t.heap[q]? = st.heap[q]?
def mx_Q (Qr : Array Value → State → Outcome → State → Prop) (px : String → Prop) : Array Value → State → Outcome → State → Prop := fun a st o t => Qr a st o t ∨ mx_X px st o t
section MX3
variable {p : Program} {l : Launch} {e : Env} {R : Room} {s : State} {m : MethodId} {args : Array Value} {below : List Frame} {meth : Method} {c : Code} {H : Heap} {locs : List Loc} {cells slots : Nat} {Q : State → Prop}
variable {pc : Nat} {ls : Array Slot} {rest st0 : List Value} {a : Array Value} {A0 A1 : Nat → Prop} {H0 : Heap} {mc ms : Nat} {free : Addr → Prop} {px : String → Prop}
theorem mx_S {L : List Loc} {H1 : Heap} (hS : va_S A0 H0 H locs) (hz : H.size ≤ H1.size) (hk : ∀ q : Nat, q < H.size → ¬ A1 q → H1[q]? = H[q]?) (hA : ∀ q, q < H.size → A1 q → A0 q) (hf : ∀ q, free q → A0 q) (hL : ∀ q ∈ L, free q.base) : va_S A0 H0 H1 (locs ++ L) := by
  refine ⟨Nat.le_trans hS.1 hz, fun q h1 h2 => ?_, fun q hq => ?_⟩
  · rw [hk q (Nat.lt_of_lt_of_le h1 hS.1) (fun z => h2 (hA q (Nat.lt_of_lt_of_le h1 hS.1) z))]; exact hS.2.1 q h1 h2
  · rcases List.mem_append.mp hq with h | h
    · exact hS.2.2 q h
    · exact hf _ (hL q h)
/-- the continuation where the callee threw -/
def mx_K (p : Program) (l : Launch) (e : Env) (R : Room) (s : State) (m : MethodId) (args : Array Value) (below : List Frame) (meth : Method) (c : Code) (H : Heap) (cells slots : Nat) (Q : State → Prop) (g : JFrame) (A0 : Nat → Prop) (H0 : Heap) (px : String → Prop) : Prop :=
  ∀ (E : String) (x : Addr) (ce : Cell) (H1 : Heap) (locs1 : List Loc), px E → H1[x]? = some ce → ce.vm = .none → s.vm.findClass E = some ce.cls → H.size ≤ H1.size → (∀ q : Nat, q < H.size → H1[q]? = H[q]?) → va_S A0 H0 H1 locs1 → mx_Th p l e R s m args below meth c H1 locs1 cells slots Q g x
theorem mx_callv {S : Type} {post : S → Prop} {B : S → State → Prop} (hr : mx_Run p l e R s m args below meth c H locs cells slots mc ms (F0 m pc ls st0) rest (mx_Q (va_Qv post B A1) px a) free) (hS : va_S A0 H0 H locs) (hA : ∀ q, q < H.size → A1 q → A0 q) (hf : ∀ q, free q → A0 q)
    (kx : mx_K p l e R s m args below meth c H (cells + mc) (slots + ms) Q (F0 m pc ls rest) A0 H0 px)
    (kk : ∀ (u : S) (t : State) (H1 : Heap) (locs1 : List Loc), t.heap = H1 → s.vm.Alike t.vm → post u → B u t → H.size ≤ H1.size → (∀ q : Nat, q < H.size → ¬ A1 q → H1[q]? = H[q]?) → va_S A0 H0 H1 locs1 → W p l e R s m args below meth c H1 locs1 (cells + mc) (slots + ms) Q (F0 m (pc + 3) ls rest)) : W p l e R s m args below meth c H locs cells slots Q (F0 m pc ls st0) := by
  intro T hT X
  obtain ⟨st₀, t, T', L, o, h0, ha0, X', hL, e1, e2, hq, hend⟩ := hr T hT X
  rcases hq with ⟨⟨u, hv, hp, hb⟩, hz, hk⟩ | ⟨E, x, ce, hv, hp, hce, hcv, hcl, hz, hk⟩
  · subst hv
    rcases hend with ⟨v, ho, st⟩ | ⟨x, ho, st⟩
    · cases ho
      rw [h0] at hz hk
      obtain ⟨t2, a1, b1⟩ := kk u t T'.heap (locs ++ L) e1.symm (by rw [← e2]; exact X'.warmed.alike) hp hb (by rw [e1]; exact hz) (fun q h1 h2 => by rw [e1]; exact hk q h1 h2) (by rw [e1]; exact mx_S hS hz hk hA hf hL) T' rfl X'
      exact ⟨t2, st.trans a1, b1⟩
    · cases ho
  · subst hv
    rcases hend with ⟨v, ho, st⟩ | ⟨x, ho, st⟩
    · cases ho
    · cases ho
      rw [h0] at hz hk
      have hk' : ∀ q : Nat, q < H.size → ¬ A1 q → t.heap[q]? = H[q]? := fun q h1 _ => hk q h1
      obtain ⟨t2, a1, b1⟩ := kx E x ce T'.heap (locs ++ L) hp (by rw [e1]; exact hce) hcv (by rw [← hcl]; exact (ha0.findClass E _).symm) (by rw [e1]; exact hz) (fun q h1 => by rw [e1]; exact hk q h1) (by rw [e1]; exact mx_S hS hz hk' hA hf hL) T' rfl X'
      exact ⟨t2, st.trans a1, b1⟩
theorem mx_calli {S : Type} {post : Int32 → S → Prop} {B : S → State → Prop} (hr : mx_Run p l e R s m args below meth c H locs cells slots mc ms (F0 m pc ls st0) rest (mx_Q (va_Qi post B A1) px a) free) (hS : va_S A0 H0 H locs) (hA : ∀ q, q < H.size → A1 q → A0 q) (hf : ∀ q, free q → A0 q)
    (kx : mx_K p l e R s m args below meth c H (cells + mc) (slots + ms) Q (F0 m pc ls rest) A0 H0 px)
    (kk : ∀ (r : Int32) (u : S) (t : State) (H1 : Heap) (locs1 : List Loc), t.heap = H1 → s.vm.Alike t.vm → post r u → B u t → H.size ≤ H1.size → (∀ q : Nat, q < H.size → ¬ A1 q → H1[q]? = H[q]?) → va_S A0 H0 H1 locs1 → W p l e R s m args below meth c H1 locs1 (cells + mc) (slots + ms) Q (F0 m (pc + 3) ls (.int r :: rest))) : W p l e R s m args below meth c H locs cells slots Q (F0 m pc ls st0) := by
  intro T hT X
  obtain ⟨st₀, t, T', L, o, h0, ha0, X', hL, e1, e2, hq, hend⟩ := hr T hT X
  rcases hq with ⟨⟨r, u, hv, hp, hb⟩, hz, hk⟩ | ⟨E, x, ce, hv, hp, hce, hcv, hcl, hz, hk⟩
  · subst hv
    rcases hend with ⟨v, ho, st⟩ | ⟨x, ho, st⟩
    · cases ho
      rw [h0] at hz hk
      obtain ⟨t2, a1, b1⟩ := kk r u t T'.heap (locs ++ L) e1.symm (by rw [← e2]; exact X'.warmed.alike) hp hb (by rw [e1]; exact hz) (fun q h1 h2 => by rw [e1]; exact hk q h1 h2) (by rw [e1]; exact mx_S hS hz hk hA hf hL) T' rfl X'
      exact ⟨t2, st.trans a1, b1⟩
    · cases ho
  · subst hv
    rcases hend with ⟨v, ho, st⟩ | ⟨x, ho, st⟩
    · cases ho
    · cases ho
      rw [h0] at hz hk
      have hk' : ∀ q : Nat, q < H.size → ¬ A1 q → t.heap[q]? = H[q]? := fun q h1 _ => hk q h1
      obtain ⟨t2, a1, b1⟩ := kx E x ce T'.heap (locs ++ L) hp (by rw [e1]; exact hce) hcv (by rw [← hcl]; exact (ha0.findClass E _).symm) (by rw [e1]; exact hz) (fun q h1 => by rw [e1]; exact hk q h1) (by rw [e1]; exact mx_S hS hz hk' hA hf hL) T' rfl X'
      exact ⟨t2, st.trans a1, b1⟩
end MX3

section MX4
variable {p : Program} {l : Launch} {e : Env} {R : Room} {s : State} {m : MethodId} {args : Array Value} {below : List Frame} {meth : Method} {c : Code} {H : Heap} {locs : List Loc} {cells slots : Nat}
theorem mx_nt (hl : l.stackTraces = false) (ha : l.admits e) : e.platform.stackTraces = false := by
  have h := ha.2.2.2.2.1
  rw [h]; exact hl
theorem mx_throw {cc : ByteArray} (hexec : p.tables.exec = Jvm.exec) (hb : c.code = cc) (hnt : l.stackTraces = false) {own cls text : String} {names : List String} {ik is ic : Nat}
    (hown : s.vm.findClass own = some m.cls) (hcls : Bundle.fit cls = true) (hnames : ∀ n ∈ names, Bundle.fit n = true)
    (hk : (Cond.classLink own ik cls).before args s = true) (hini : (Cond.initialized cls).before args s = true) (hs : (Cond.stringRef own is text).before args s = true)
    (h : ∀ a ∈ Bundle.ownAtoms own ic cls names, a.before args s = true)
    (he : c.exceptionTable.isEmpty = true) (hlocks : meth.locks = false) (hS : va_S (fun q => s.heap.size ≤ q) s.heap H locs)
    {pc : Nat} {ls : Array Slot} (hsize : ls.size = c.maxLocals)
    (d0 : decode cc pc = .ok (.new ik, 3)) (d3 : decode cc (pc + 3) = .ok (.dup, 1)) (d4 : decode cc (pc + 4) = .ok (.ldc is, 2))
    (d6 : decode cc (pc + 6) = .ok (.invokespecial ic, 3)) (d9 : decode cc (pc + 9) = .ok (.athrow, 1))
    (hRf : names.length + 3 < R.frames) (hRl : 13 * (names.length + 1) + 43 ≤ R.locals) (hRc : cells + 1 ≤ R.cells) (hRs : slots + 6 ≤ R.slots)
    {Qc : Array Value → State → Outcome → State → Prop} {free : Addr → Prop} (hq : ∀ o t, mx_X (fun E => E = cls) s o t → Qc args s o t) (hf : ∀ q, s.heap.size ≤ q → free q) :
    W p l e R s m args below meth c H locs cells slots (mx_MQ below Qc args s (cells + 1) (slots + 6) free) (F0 m pc ls []) := by
  subst hb
  refine W.newc (n := 6) hexec rfl hown hk (h _ (by simp [Bundle.ownAtoms])) hini (g := F0 m pc ls []) rfl d0 hRc hRs (fun cX kX hfX hkX _ _ => ?_)
  refine lv_dup hexec rfl d3 rfl ?_
  obtain ⟨-, -, -, sa, -, -, -, -, -, hev⟩ := Cond.stringRef_spec hown hs
  intro T hT X
  have hcell : T.heap[H.size]? = some (freshCell cX kX) := by
    rw [hT]; exact Array.getElem?_push_size
  have hout : ∀ y ∈ c.exceptionTable.toList, covers y (pc + 9) = false := by
    intro y hy
    rw [Array.isEmpty_iff] at he
    rw [he] at hy
    simp at hy
  obtain ⟨U, hsteps, hrun, hend, hW, hsame, ce, hce, hO⟩ := X.ctorThrowS hexec (mx_nt hnt X.admits) (own := own) (cls := cls) (names := names) (ic := ic) hown hcls hnames h
    (fun x hx cell hcl => absurd (Array.getElem?_eq_some_iff.mp hcl).1 (Nat.not_lt.mpr (hS.2.2 x hx))) hfX hkX hcell hS.1 (msg := .ref sa) rfl
    (g := F0 m (pc + 6) ls [.ref sa, .ref H.size, .ref H.size]) rfl hsize rfl rfl (rest := []) rfl d6 d9 hout hRf
    (by show 2 * 0 + 1 + (13 * (names.length + 1) + 42) ≤ R.locals; omega) hlocks
  refine ⟨U, ?_, .threw H.size, hrun, hend, hq _ _ ⟨cls, H.size, ce, rfl, rfl, hce, hO.vm, hO.cls, hsame.2.1, fun q hq => ?_⟩, locs, ⟨hW, hsame⟩, fun q hq => hf _ (hS.2.2 q hq)⟩
  · exact X.ldcString hexec (own := own) (text := text) (index := is) (a := sa) hown hs hev (g := F0 m (pc + 4) ls [.ref H.size, .ref H.size]) rfl d4 _ hsteps
  · obtain ⟨c0, hc0⟩ : ∃ c0, s.heap[q]? = some c0 := ⟨_, Array.getElem?_eq_getElem hq⟩
    obtain ⟨c1, k1, k2, k3, k4⟩ := hsame.2.2.2.2.2 q c0 hc0
    have hslots : c1.slots = c0.slots := by
      apply Array.ext_getElem?
      intro i
      exact k4 i (fun hmem => Nat.not_lt.mpr (hS.2.2 _ hmem) hq)
    rw [hc0, show U.heap[q]? = some c1 from k1, k2, hslots]
end MX4
