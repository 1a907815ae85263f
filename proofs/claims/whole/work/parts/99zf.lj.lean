/-! the law: calls of its own methods with handlers; its world and what it carries around the loop -/
theorem lj_met {l : Launch} {y : MethodName} {ws : List Cond} {rm : Room} {Pc : Array Value → State → Prop} {Qc : Array Value → State → Outcome → State → Prop} {mc ms : Nat} {free : Addr → Prop} (h : Met l y ws rm Pc Qc mc ms free) : mx_Met l y ws rm Pc (fun a st o t => Qc a st o t ∧ ∃ v, o = .returned v) mc ms free := by
  intro p e h1 h2 h3 s m args below h4 h5 h6 h7
  obtain ⟨n, o, a1, a2, a3, a4, L, a5, a6⟩ := h p e h1 h2 h3 s m args below h4 h5 h6 h7
  exact ⟨n, o, a1, a2, a3, ⟨a4, a5.1⟩, L, a5.2, a6⟩
section LJ1
variable {p : Program} {l : Launch} {e : Env} {R : Room} {s : State} {m : MethodId} {args : Array Value} {below : List Frame} {meth : Method} {c : Code} {H : Heap} {locs : List Loc} {cells slots : Nat} {Q : State → Prop}
variable {y : MethodName} {bytes cc : ByteArray} {maxL nL mc ms index : Nat} {ret : Option FieldType} {ws : List Cond} {rm : Room} {Pc : Array Value → State → Prop} {Qc : Array Value → State → Outcome → State → Prop} {free : Addr → Prop} {Ts : List Cond} {own : String} {As rest : List Value} {g : JFrame} {hh : List (Nat × Nat × Nat × Nat)}
theorem lj_runS (S : CallFix p m c cc nL s args Ts own) (hM : Met l y ws rm Pc Qc mc ms free) (hcode : (Cond.codeWith y bytes maxL ret hh).before args s = true) (hstt : (Cond.static y).before args s = true) (hini : (Cond.initialized y.cls).before args s = true) (hl : (Cond.methodLink own index y).before args s = true)
    (hd : y.cls ≠ "java/lang/invoke/MethodHandle" ∧ y.cls ≠ "java/lang/invoke/VarHandle" ∧ (parseMethodDescriptor y.desc).map (fun d => d.parameters.length) = some As.length) (hrc : rm.cells = mc) (hrs : rm.slots = ms) (hR : rm.frames + 1 ≤ R.frames ∧ 8 + (maxL + 11) + rm.locals ≤ R.locals)
    (hws : ∀ w ∈ ws, ∀ (a' : Array Value) (U : State), s.WarmedH U.vm → w.before a' U = true) (hp : PreS s H Pc As)
    (hg : g.method = m) (hsize : g.locals.size = nL) (hstack : g.stack = As.reverse ++ rest) (hW : 2 * g.monitorRoom + (rest.map fun v => v.category).sum ≤ 8) (hdg : decode cc g.pc = .ok (.invokestatic index, 3)) (hf : cells + mc ≤ R.cells ∧ slots + ms ≤ R.slots) :
    va_Run p l e R s m args below meth c H locs cells slots mc ms g rest (Qc As.toArray) free := by
  obtain ⟨hx, hb, hml, ho, -⟩ := S
  intro T hT X
  obtain ⟨mk, methM, cM, hnamed, hmethM, hcM, -, hlM, -, -, -, hsigM⟩ := Cond.codeWith_spec hcode
  obtain ⟨kP, hkP, -⟩ := className_of_methodNamed hnamed
  have hst : methM.isStatic = true := Cond.static_spec hnamed hmethM hstt
  have hinitP : kP.init = .initialized := Cond.initialized_spec (findClass_of_methodNamed hnamed) hkP hini
  have hlen : As.length = methM.sig.parameters.length := by
    have h2 := hd.2.2
    rw [hsigM] at h2
    exact (Option.some.inj h2).symm
  obtain ⟨vm₁, X₁, hstep₁⟩ := X.invokestatic hx ho hl hnamed hmethM hst hkP hinitP ⟨hd.1, hd.2.1⟩ (g := g) hg (argsL := As) (rest := rest) hlen hstack (by rw [hb]; exact hdg)
  have hal := X₁.warmed.alike
  obtain ⟨t, T', L, o, X', hL, e1, e2, hq, hend⟩ := mx_inv X₁ (lj_met hM) (g := { g with stack := rest }) hg (hsize.trans hml.symm) (ig := .invokestatic index) (by rw [hb]; exact hdg) hW (a := As.toArray) (X₁.named hnamed)
    (methY := methM) (cY := cM) (maxL := maxL) (by rw [hal.method?]; exact hmethM) hcM hlM (word_at X₁.warmed (Or.inl rfl) hini) (fun w hw => hws w hw _ _ X₁.warmed) hrc hrs hR.1 hR.2 hf.1 hf.2 (hp.1 _ _ _ _ (hp.2 (T.setVm vm₁) hT X₁.warmed))
  obtain ⟨hq1, v, hv⟩ := hq
  subst hv
  rcases hend with ⟨v', ho', st⟩ | ⟨x, ho', st⟩
  · cases ho'
    exact ⟨v, (T.setVm vm₁).calling { g with stack := rest } mk As.toArray, t, T', L, hT, X', hL, e1, e2, hq1, fun t2 h2 => hstep₁ _ fun acts => by rw [doInvoke_state]; exact st.trans h2⟩
  · cases ho'
end LJ1
def R_law : String := "AmountPlannerLaw"
def lw_P (b : Addr) (xs : List Int32) (args : Array Value) (s : State) : Prop := args = #[.ref b] ∧ s.IntsAt b xs ∧ xs.length ≤ 4608 ∧ (Jvm.Cond.and given_1 narrow_1).before args s = true
def lw_Q (_ : Array Value) (s : State) (o : Outcome) (t : State) : Prop := o = .returned (some (.int 1)) ∧ Framed s o t [] 601024 7293034
def lw_Z (below : List Frame) (a : Array Value) (s : State) : State → Prop := fun t => ∃ o, t.status = .running ∧ Ended t below o ∧ lw_Q a s o t
theorem lj_c {x : Nat} (h : x ≤ 601024) : x ≤ room_1.cells := h
theorem lj_s {x : Nat} (h : x ≤ 7293034) : x ≤ room_1.slots := h
abbrev lj_P : Type := Nat × Nat × (Nat → Int32) × (Nat → Int32) × (Nat → Int32) × (Nat → Int32) × (Nat → Nat → Int32) × (Nat → Int32)
abbrev lj_T : Type := (Nat → Int32) × (Nat → Int32) × (Nat → Int32) × (Nat → Int32) × (Nat → Int32) × (Nat → Int32)
abbrev lj_S : Type := Int32 × Int32 × Int32 × Int32 × Int32 × (Nat → Int32) × (Nat → Int32)
abbrev lj_J : Type := Int32 × (Nat → Int32) × (Nat → Int32) × (Nat → Int32) × (Nat → Int64) × Int32 × (Nat → Int32) × (Nat → Int64) × Int32 × Int64 × Int64 × (Nat → Int32) × (Nat → Int32) × (Nat → Int32)
abbrev lj_Q : Type := Nat × Nat × (Nat → Int32) × (Nat → Int32) × (Nat → Int32) × (Nat → Int32) × (Nat → Int32) × (Nat → Int32)
abbrev lj_U : Type := (Nat → Int32) × (Nat → Int32) × (Nat → Int32) × (Nat → Int32) × (Nat → Int32) × (Nat → Int64)
abbrev lj_V : Type := Int32 × Int32 × Int64 × Int64 × (Nat → Int64)
abbrev lj_Y : Type := Int32 × Int64 × Nat × Nat × (Nat → Int64) × (Nat → Int32) × (Nat → Int64) × (Nat → Int64) × (Nat → Int32) × (Nat → Int32) × (Nat → Int64)
/-- the law's whole world: the class's cells, the reference's, out -/
def lj_W (cI cZ cL cQ : ClassId) (ad rw : Nat → Nat) (zp : lj_P) (zt : lj_T) (zs : lj_S) (zj : lj_J) (yp : lj_Q) (yt : lj_U) (ys : lj_V) (yj : lj_Y) (ov : Nat → Int64) : va_W := [(ad 0, .inr (6, [.ref (ad 2), .ref (ad 3), .ref (ad 4), .ref (ad 5), .ref (ad 6), .ref (ad 7), .ref (ad 1), .int zs.1, .int zs.2.1])), (ad 2, .inr (0, [.int (nI zp.1), .int (nI zp.2.1), .ref (ad 8), .ref (ad 9), .ref (ad 10), .ref (ad 11), .ref (ad 12), .ref (ad 13)])), (ad 8, .inl (cI, 4, .inl zp.2.2.1)), (ad 9, .inl (cI, 4, .inl zp.2.2.2.1)), (ad 10, .inl (cZ, 4, .inl zp.2.2.2.2.1)), (ad 11, .inl (cI, 4, .inl zp.2.2.2.2.2.1)), (ad 12, .inl (cQ, 6, .inr (.inr (.inr (.inr (fun i9 => some (rw i9))))))), (rw 0, .inl (cI, 4, .inl (zp.2.2.2.2.2.2.1 0))), (rw 1, .inl (cI, 4, .inl (zp.2.2.2.2.2.2.1 1))), (rw 2, .inl (cI, 4, .inl (zp.2.2.2.2.2.2.1 2))), (rw 3, .inl (cI, 4, .inl (zp.2.2.2.2.2.2.1 3))), (rw 4, .inl (cI, 4, .inl (zp.2.2.2.2.2.2.1 4))), (rw 5, .inl (cI, 4, .inl (zp.2.2.2.2.2.2.1 5))), (ad 13, .inl (cI, 6, .inl zp.2.2.2.2.2.2.2)), (ad 3, .inr (1, [.ref (ad 14)])), (ad 14, .inl (cI, 2048, .inl zs.2.2.2.2.2.2)), (ad 4, .inr (2, [.int zs.2.2.1, .ref (ad 15), .int zs.2.2.2.1, .int zs.2.2.2.2.1, .int zj.1, .ref (ad 16), .ref (ad 17), .ref (ad 18)])), (ad 15, .inl (cI, 4, .inl zs.2.2.2.2.2.1)), (ad 16, .inl (cI, 4, .inl zj.2.1)), (ad 17, .inl (cI, 6, .inl zj.2.2.1)), (ad 18, .inl (cI, 4, .inl zj.2.2.2.1)), (ad 5, .inr (3, [.ref (ad 19), .ref (ad 20), .ref (ad 21), .ref (ad 22), .ref (ad 23), .ref (ad 24), .ref (ad 25)])), (ad 19, .inl (cI, 40, .inl zt.1)), (ad 20, .inl (cI, 40, .inl zt.2.1)), (ad 21, .inl (cI, 40, .inl zt.2.2.1)), (ad 22, .inl (cI, 40, .inl zt.2.2.2.1)), (ad 23, .inl (cI, 40, .inl zt.2.2.2.2.1)), (ad 24, .inl (cI, 280, .inl zt.2.2.2.2.2)), (ad 25, .inl (cL, 6, .inr (.inl zj.2.2.2.2.1))), (ad 6, .inr (4, [.int zj.2.2.2.2.2.1, .ref (ad 26), .ref (ad 27)])), (ad 26, .inl (cI, 7, .inl zj.2.2.2.2.2.2.1)), (ad 27, .inl (cL, 2772, .inr (.inl zj.2.2.2.2.2.2.2.1))), (ad 7, .inr (5, [.ref (ad 28), .ref (ad 29), .int zj.2.2.2.2.2.2.2.2.1, .long zj.2.2.2.2.2.2.2.2.2.1, .long zj.2.2.2.2.2.2.2.2.2.2.1])), (ad 28, .inl (cI, 4, .inl zj.2.2.2.2.2.2.2.2.2.2.2.1)), (ad 29, .inl (cI, 4, .inl zj.2.2.2.2.2.2.2.2.2.2.2.2.1)), (ad 1, .inl (cI, 4, .inl zj.2.2.2.2.2.2.2.2.2.2.2.2.2)), (ad 30, .inr (7, [.int yj.1, .int (nI yp.1), .ref (ad 31), .ref (ad 32), .ref (ad 33), .ref (ad 34), .int (nI yp.2.1), .ref (ad 35), .ref (ad 36), .int ys.1, .int ys.2.1, .ref (ad 37), .long ys.2.2.1, .long ys.2.2.2.1, .ref (ad 38), .long yj.2.1, .ref (ad 39), .int (nI yj.2.2.1), .ref (ad 40), .int (nI yj.2.2.2.1), .ref (ad 41), .ref (ad 42), .ref (ad 43), .ref (ad 44), .ref (ad 45), .ref (ad 46), .ref (ad 47), .ref (ad 48), .ref (ad 49), .ref (ad 50)])), (ad 31, .inl (cI, 4, .inl yp.2.2.1)), (ad 32, .inl (cI, 4, .inl yp.2.2.2.1)), (ad 33, .inl (cZ, 4, .inl yp.2.2.2.2.1)), (ad 34, .inl (cI, 4, .inl yp.2.2.2.2.2.1)), (ad 35, .inl (cI, 24, .inl yp.2.2.2.2.2.2.1)), (ad 36, .inl (cI, 6, .inl yp.2.2.2.2.2.2.2)), (ad 37, .inl (cL, 4, .inr (.inl ys.2.2.2.2))), (ad 38, .inl (cL, 4, .inr (.inl yj.2.2.2.2.1))), (ad 39, .inl (cI, 4, .inl yj.2.2.2.2.2.1)), (ad 40, .inl (cL, 70, .inr (.inl yj.2.2.2.2.2.2.1))), (ad 41, .inl (cL, 16, .inr (.inl yj.2.2.2.2.2.2.2.1))), (ad 42, .inl (cI, 4, .inl yj.2.2.2.2.2.2.2.2.1)), (ad 43, .inl (cI, 40, .inl yt.1)), (ad 44, .inl (cI, 40, .inl yt.2.1)), (ad 45, .inl (cI, 40, .inl yt.2.2.1)), (ad 46, .inl (cI, 40, .inl yt.2.2.2.1)), (ad 47, .inl (cI, 40, .inl yt.2.2.2.2.1)), (ad 48, .inl (cL, 280, .inr (.inl yt.2.2.2.2.2))), (ad 49, .inl (cI, 900, .inl yj.2.2.2.2.2.2.2.2.2.1)), (ad 50, .inl (cL, 4, .inr (.inl yj.2.2.2.2.2.2.2.2.2.2))), (ad 51, .inl (cL, 1, .inr (.inl ov)))]
def lj_C (p : Program) (s : State) (m : MethodId) (meth : Method) (c : Code) (b L : Nat) (xs : Nat → Int32) (D : va_G) (cI cZ cL cQ : ClassId) : Prop :=
  p.tables.exec = Jvm.exec ∧ c.code = code ∧ c.maxLocals = 7 ∧ s.vm.findClass RR_Law = some m.cls ∧ (∀ w ∈ tb_all, w.before #[Value.ref b] s = true) ∧ va_X b L xs s s.heap ∧ b < s.heap.size ∧ va_K D kc_all [(cI, .int), (cZ, .boolean), (cL, .long), (cQ, .array .int)] s ∧ mx_Tr s
/-- the law goes on at 1092 with what a call has left -/
def lj_K (JJ : lj_P → lj_T → lj_S → lj_Q → lj_U → lj_V → Prop) (p : Program) (l : Launch) (e : Env) (s : State) (m : MethodId) (below : List Frame) (meth : Method) (c : Code) (D : va_G) (cI cZ cL cQ : ClassId) (b : Nat) (ad rw : Nat → Nat) (i : Nat) : Prop :=
  ∀ (zp : lj_P) (zt : lj_T) (zs : lj_S) (zj : lj_J) (yp : lj_Q) (yt : lj_U) (ys : lj_V) (yj : lj_Y) (ov : Nat → Int64), JJ zp zt zs yp yt ys → ∀ (ls : Array Slot) (H : Heap) (locs : List Loc) (cells slots : Nat), cells ≤ 101 + i → slots ≤ 7006 + 6 * i → lv_has ls 7 [(0, .ref b), (1, .ref (ad 0)), (2, .ref (ad 30)), (3, .ref (ad 51)), (4, .int (nI i))] → va_P D kc_all (lj_W cI cZ cL cQ ad rw zp zt zs zj yp yt ys yj ov) H → va_D (mx_A s.heap.size) (lj_W cI cZ cL cQ ad rw zp zt zs zj yp yt ys yj ov) → va_S (mx_A s.heap.size) s.heap H locs → W p l e room_1 s m #[Value.ref b] below meth c H locs cells slots (lw_Z below #[Value.ref b] s) (F0 m 1092 ls [])
