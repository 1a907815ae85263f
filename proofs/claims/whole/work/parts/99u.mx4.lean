/-! what a throw asks of the state beside the tables' words: it is kept as long as no statics cell is written -/
def tx_1 : List Cond := [.laysStatic Bundle.tN "UNASSIGNED_STACK" Bundle.steD, .laysStatic Bundle.tN "SUPPRESSED_SENTINEL" Bundle.listD]
def tx_2 : List Cond := [.castable "java/lang/IllegalArgumentException" "java/lang/IllegalArgumentException", .castable "java/lang/IndexOutOfBoundsException" "java/lang/IndexOutOfBoundsException", .castable "java/lang/IllegalStateException" "java/lang/IllegalStateException", .declares (Bundle.initS "java/lang/RuntimeException"), .declares (Bundle.initS "java/lang/Exception"), .declares (Bundle.initS "java/lang/Throwable")]
def tx_3 : List Cond := [.not (.castable "java/lang/IllegalArgumentException" "java/lang/IndexOutOfBoundsException"), .not (.castable "java/lang/IllegalStateException" "java/lang/IllegalArgumentException"), .not (.castable "java/lang/IllegalStateException" "java/lang/IndexOutOfBoundsException")]
def tx_lit : List (Nat × String) := [(68, "there are 1 to 4 amounts"), (219, "there is no such amount"), (81, "a least and a most are -20 to 20, in this order"), (83, "a whole amount is at most 8 wide"), (95, "a cost is -9 to 9"), (103, "a weight is -9 to 9, and 0 where there is no amount"), (105, "a bound is -99 to 99"), (113, "there are 6 limits"), (126, "there is no such limit"), (223, "0 asks for p, 1 for q"), (225, "there is no plan to tell of"), (162, "a divisor is 1 to 1000"), (164, "a number is -20000 to 20000"), (221, "there is no such node"), (176, "a fork's nodes have greater numbers"), (178, "a fork's amount is 0 to 3, its number -20 to 20"), (188, "an end's numbers are 0 to 1000000"), (200, "a bound is -1000000 to 1000000 by 1 to 1000000"), (210, "the problem was not solved, or loosely")]
def mx_Tr (U : State) : Prop := (∀ w ∈ tx_1, w.before #[] U = true) ∧ (∀ w ∈ tx_2, w.before #[] U = true) ∧ (∀ w ∈ tx_3, w.before #[] U = true) ∧ (∀ q ∈ tx_lit, ∃ a, vk_R "AmountPlanner" q.1 q.2 a U) ∧
  va_Zq Bundle.tN "UNASSIGNED_STACK" Bundle.steD (fun _ => False) U U.heap ∧ va_Zq Bundle.tN "SUPPRESSED_SENTINEL" Bundle.listD (fun _ => False) U U.heap
theorem mx_isRef {C n d : String} {A : Nat → Prop} {U : State} {a : Array Value} (h : va_Zq C n d A U U.heap) : (Cond.isRef (.static C n d)).before a U = true := by
  rcases h with h | ⟨t, h⟩ <;> obtain ⟨cf, kf, fi, f, a, cell, h1, h2, h3, h4, h5, h6, h7, h8⟩ := h <;>
    simp [Cond.before, Cond.holds, Cond.value, Term.eval, State.fieldNamed?, h1, h2, h4, h5, h6, h7]
theorem mx_Zq_move {C n d : String} {s U : State} (hal : s.vm.Alike U.vm) (hst : ∀ (q : Nat) (c : Cell), s.heap[q]? = some c → c.vm.isStatics = true → U.heap[q]? = some c) (h : va_Zq C n d (fun _ => False) s s.heap) : va_Zq C n d (fun _ => False) U U.heap := by
  rcases h with h | ⟨t, h⟩
  · obtain ⟨cf, kf, fi, f, a, cell, h1, h2, h3, h4, h5, h6, h7, h8⟩ := va_Z.moved hal h
    exact Or.inl ⟨cf, kf, fi, f, a, cell, h1, h2, h3, h4, hst a cell h5 h6, h6, h7, h8⟩
  · obtain ⟨cf, kf, fi, f, a, cell, h1, h2, h3, h4, h5, h6, h7, h8⟩ := va_Z.moved hal h
    exact Or.inr ⟨t, cf, kf, fi, f, a, cell, h1, h2, h3, h4, hst a cell h5 h6, h6, h7, h8⟩
theorem mx_lays {C n d : String} {s U : State} (hst : ∀ (q : Nat) (c : Cell), s.heap[q]? = some c → c.vm.isStatics = true → U.heap[q]? = some c) (h : (Cond.laysStatic C n d).before #[] (s.setVm U.vm) = true) : (Cond.laysStatic C n d).before #[] U = true := by
  obtain ⟨c, k, i, f, a, cell, hc, hi, hs, ha, hcell, hq, hcls, hlt, hty⟩ := Cond.laysStatic_spec h
  have hcell' : U.heap[a]? = some cell := hst a cell hcell hq
  have hc' : U.vm.findClass C = some c := hc
  have hi' : U.fieldFound? C n d = some (c, k, i, f) := hi
  simp [Cond.before, Cond.holds, Cond.value, hc', hi', hs, ha, hcell', hq, hcls, hlt, hty]
theorem mx_Tr_move {s U : State} (hW : s.WarmedH U.vm) (hst : ∀ (q : Nat) (c : Cell), s.heap[q]? = some c → c.vm.isStatics = true → U.heap[q]? = some c) (h : mx_Tr s) : mx_Tr U := by
  obtain ⟨h1, h2, h3, h4, h5, h6⟩ := h
  have hal := hW.alike
  refine ⟨fun w hw => ?_, fun w hw => ?_, fun w hw => ?_, fun q hq => ?_, mx_Zq_move hal hst h5, mx_Zq_move hal hst h6⟩
  · have k1 : w.before #[] (s.setVm U.vm) = true := by
      have hk : w.keepsFace = true := by
        simp only [tx_1, List.mem_cons, List.not_mem_nil, or_false] at hw
        rcases hw with rfl | rfl <;> rfl
      exact Cond.before_shiftedFace (State.Shifted.of_warmed hW) _ hk (h1 w hw)
    simp only [tx_1, List.mem_cons, List.not_mem_nil, or_false] at hw
    rcases hw with rfl | rfl <;> exact mx_lays hst k1
  · have k1 : w.before #[] (s.setVm U.vm) = true := by
      have hk : w.keepsFace = true := by
        simp only [tx_2, List.mem_cons, List.not_mem_nil, or_false] at hw
        rcases hw with rfl | rfl | rfl | rfl | rfl | rfl <;> rfl
      exact Cond.before_shiftedFace (State.Shifted.of_warmed hW) _ hk (h2 w hw)
    simp only [tx_2, List.mem_cons, List.not_mem_nil, or_false] at hw
    rcases hw with rfl | rfl | rfl | rfl | rfl | rfl <;> exact k1
  · have k1 : w.before #[] (s.setVm U.vm) = true := by
      refine Cond.castAtom_setVm hal w ?_ (h3 w hw)
      simp only [tx_3, List.mem_cons, List.not_mem_nil, or_false] at hw
      rcases hw with rfl | rfl | rfl <;> rfl
    simp only [tx_3, List.mem_cons, List.not_mem_nil, or_false] at hw
    rcases hw with rfl | rfl | rfl <;> exact k1
  · obtain ⟨a, ha⟩ := h4 q hq
    exact ⟨a, vk_R.warm hW ha⟩
theorem mx_str {U : State} {a : Array Value} (h : mx_Tr U) (k : Nat) (i : Nat) (tx : String) (hk : tx_lit[k]? = some (i, tx)) : (Cond.stringRef "AmountPlanner" i tx).before a U = true := by
  obtain ⟨b, hb⟩ := h.2.2.2.1 _ (List.mem_of_getElem? hk)
  exact hb.1
def tx_up : List String := ["java/lang/RuntimeException", "java/lang/Exception"]
theorem mx_own {ic : Nat} {cls : String} {U : State} {a : Array Value} (htb : ∀ w ∈ tb_all, w.before a U = true) (h : mx_Tr U)
    (hc : ∀ w ∈ Bundle.ownAtoms "AmountPlanner" ic cls tx_up, w ∈ tb_all ∨ w ∈ tx_1 ∨ w ∈ tx_2 ∨ w = .isRef (.static Bundle.tN "UNASSIGNED_STACK" Bundle.steD) ∨ w = .isRef (.static Bundle.tN "SUPPRESSED_SENTINEL" Bundle.listD)) : ∀ w ∈ Bundle.ownAtoms "AmountPlanner" ic cls tx_up, w.before a U = true := by
  intro w hw
  rcases hc w hw with h1 | h1 | h1 | h1 | h1
  · exact htb w h1
  · have k1 := h.1 w h1
    simp only [tx_1, List.mem_cons, List.not_mem_nil, or_false] at h1
    rcases h1 with rfl | rfl <;> exact k1
  · have k1 := h.2.1 w h1
    simp only [tx_2, List.mem_cons, List.not_mem_nil, or_false] at h1
    rcases h1 with rfl | rfl | rfl | rfl | rfl | rfl <;> exact k1
  · rw [h1]; exact mx_isRef h.2.2.2.2.1
  · rw [h1]; exact mx_isRef h.2.2.2.2.2
set_option maxRecDepth 100000 in
theorem ow_A : ∀ w ∈ Bundle.ownAtoms "AmountPlanner" 70 "java/lang/IllegalArgumentException" tx_up, w ∈ tb_all ∨ w ∈ tx_1 ∨ w ∈ tx_2 ∨ w = .isRef (.static Bundle.tN "UNASSIGNED_STACK" Bundle.steD) ∨ w = .isRef (.static Bundle.tN "SUPPRESSED_SENTINEL" Bundle.listD) := by decide +kernel
set_option maxRecDepth 100000 in
theorem ow_B : ∀ w ∈ Bundle.ownAtoms "AmountPlanner" 128 "java/lang/IndexOutOfBoundsException" tx_up, w ∈ tb_all ∨ w ∈ tx_1 ∨ w ∈ tx_2 ∨ w = .isRef (.static Bundle.tN "UNASSIGNED_STACK" Bundle.steD) ∨ w = .isRef (.static Bundle.tN "SUPPRESSED_SENTINEL" Bundle.listD) := by decide +kernel
set_option maxRecDepth 100000 in
theorem ow_C : ∀ w ∈ Bundle.ownAtoms "AmountPlanner" 115 "java/lang/IllegalStateException" tx_up, w ∈ tb_all ∨ w ∈ tx_1 ∨ w ∈ tx_2 ∨ w = .isRef (.static Bundle.tN "UNASSIGNED_STACK" Bundle.steD) ∨ w = .isRef (.static Bundle.tN "SUPPRESSED_SENTINEL" Bundle.listD) := by decide +kernel
theorem kl_A : Cond.classLink "AmountPlanner" 66 "java/lang/IllegalArgumentException" ∈ tb_all := by decide +kernel
theorem kl_B : Cond.classLink "AmountPlanner" 124 "java/lang/IndexOutOfBoundsException" ∈ tb_all := by decide +kernel
theorem kl_C : Cond.classLink "AmountPlanner" 111 "java/lang/IllegalStateException" ∈ tb_all := by decide +kernel
theorem ki_A : Cond.initialized "java/lang/IllegalArgumentException" ∈ tb_all := by decide +kernel
theorem ki_B : Cond.initialized "java/lang/IndexOutOfBoundsException" ∈ tb_all := by decide +kernel
theorem ki_C : Cond.initialized "java/lang/IllegalStateException" ∈ tb_all := by decide +kernel
