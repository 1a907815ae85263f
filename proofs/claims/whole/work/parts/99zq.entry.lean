/-! what the law's entry gives: the classes, what a throw asks, what a constructor asks -/
theorem lj_any {w : Cond} {A : Array Value} {s : State} (h : w.before A s = true) (e : ∀ B : Array Value, w.before B s = w.before A s) : w.before #[] s = true := by rw [e]; exact h
theorem lj_Tr {s : State} {b : Nat} (hts : ∀ w ∈ lw_tbl, w.before #[Value.ref b] s = true) (hg : (Jvm.Cond.and given_1 narrow_1).before #[Value.ref b] s = true) : mx_Tr s := by
  have hs := flat_of_before _ hg
  have h1 : ∀ w ∈ tx_1, w.before #[Value.ref b] s = true := fun w hw => hts w ((by decide +kernel : ∀ w ∈ tx_1, w ∈ lw_tbl) w hw)
  refine ⟨fun w hw => ?_, fun w hw => ?_, fun w hw => ?_, fun q hq => ?_, ?_, ?_⟩
  · have h := h1 w hw
    simp only [tx_1, List.mem_cons, List.not_mem_nil, or_false] at hw
    rcases hw with rfl | rfl <;> exact h
  · have h : w.before #[Value.ref b] s = true := by
      rcases (by decide +kernel : ∀ w ∈ tx_2, w ∈ lw_tbl ∨ w ∈ flatC (Jvm.Cond.and given_1 narrow_1)) w hw with z | z
      · exact hts w z
      · exact hs w z
    simp only [tx_2, List.mem_cons, List.not_mem_nil, or_false] at hw
    rcases hw with rfl | rfl | rfl | rfl | rfl | rfl <;> exact h
  · have h : w.before #[Value.ref b] s = true := hs w ((by decide +kernel : ∀ w ∈ tx_3, w ∈ flatC (Jvm.Cond.and given_1 narrow_1)) w hw)
    simp only [tx_3, List.mem_cons, List.not_mem_nil, or_false] at hw
    rcases hw with rfl | rfl | rfl <;> exact h
  · have h : (Cond.stringRef "AmountPlanner" q.1 q.2).before #[Value.ref b] s = true := hts _ ((by decide +kernel : ∀ q ∈ tx_lit, Cond.stringRef "AmountPlanner" q.1 q.2 ∈ lw_tbl) q hq)
    have hc : ∃ c, s.vm.findClass "AmountPlanner" = some c := by
      simp only [Cond.before, Cond.holds, Cond.value] at h
      cases hc : s.vm.findClass "AmountPlanner" with
      | none => simp [hc] at h
      | some c => exact ⟨c, rfl⟩
    obtain ⟨c, hc⟩ := hc
    obtain ⟨-, -, -, sa, -, -, -, -, -, hev⟩ := Cond.stringRef_spec hc h
    exact ⟨sa, vk_R.of h hev⟩
  · exact va_Zqof (h1 _ (by decide)) (hts (.initialized Bundle.tN) (by decide +kernel)) (hs (.isRef (.static Bundle.tN "UNASSIGNED_STACK" Bundle.steD)) (by decide +kernel)) (fun _ _ z => z)
  · exact va_Zqof (h1 _ (by decide)) (hts (.initialized Bundle.tN) (by decide +kernel)) (hs (.isRef (.static Bundle.tN "SUPPRESSED_SENTINEL" Bundle.listD)) (by decide +kernel)) (fun _ _ z => z)
theorem lj_cx {s : State} {b : Nat} (hts : ∀ w ∈ lw_tbl, w.before #[Value.ref b] s = true) : cx_Tr s := by
  refine ⟨fun w hw => ?_, ?_⟩
  · have h := hts w ((by decide +kernel : ∀ w ∈ cx_nest, w ∈ lw_tbl) w hw)
    simp only [cx_nest, List.mem_cons, List.not_mem_nil, or_false] at hw
    rcases hw with rfl | rfl | rfl | rfl | rfl | rfl <;> exact va_Nw.of rfl h
  · exact hts (.arrayOver (.array .int)) (by decide +kernel)
theorem lj_arr {s : State} {A : Array Value} {ty : FieldType} (h : (Cond.arrayClass ty).before A s = true) (hty : ∀ C, ty ≠ .object C) : ∃ cA, ArrOfT s cA ty ∧ va_RA s cA ty := by
  obtain ⟨cA, kA, comp, h1, h2, h3⟩ := Cond.arrayClass_spec h
  refine ⟨cA, fun n z => ⟨fun k h => (by cases h), kA, h2, comp, h3⟩, ?_⟩
  cases ty with
  | object C => exact absurd rfl (hty C)
  | _ => exact h1
theorem lj_Kx {s : State} {b : Nat} (htb : ∀ w ∈ tb_all, w.before #[Value.ref b] s = true) (hov : (Cond.arrayOver (.array .int)).before #[] s = true) : ∃ (D : va_G) (cI cZ cL cQ : ClassId), va_K D kc_all [(cI, .int), (cZ, .boolean), (cL, .long), (cQ, .array .int)] s := by
  obtain ⟨c0, i0, h0⟩ := u_known htb hi_Problem (htb _ it_Problem)
  obtain ⟨c1, i1, h1⟩ := u_known htb hi_Minors (htb _ it_Minors)
  obtain ⟨c2, i2, h2⟩ := u_known htb hi_Search (htb _ it_Search)
  obtain ⟨c3, i3, h3⟩ := u_known htb hi_Tree (htb _ it_Tree)
  obtain ⟨c4, i4, h4⟩ := u_known htb hi_Proof (htb _ it_Proof)
  obtain ⟨c5, i5, h5⟩ := u_known htb hi_Box (htb _ it_Box)
  obtain ⟨c6, i6, h6⟩ := u_known htb hi_Planner (htb _ it_Planner)
  obtain ⟨c7, i7, h7⟩ := u_known htb hi_Model (htb _ it_Model)
  obtain ⟨cI, aI⟩ := lj_arr (htb _ ac_int) (fun C h => by cases h)
  obtain ⟨cZ, aZ⟩ := lj_arr (htb _ ac_boolean) (fun C h => by cases h)
  obtain ⟨cL, aL⟩ := lj_arr (htb _ ac_long) (fun C h => by cases h)
  obtain ⟨comp, cQ, kQ, q1, q2, q3, q4⟩ := cz_over hov
  refine ⟨(fun k => [c0, c1, c2, c3, c4, c5, c6, c7].getD k 0, fun k => [i0, i1, i2, i3, i4, i5, i6, i7].getD k (fun _ => 0)), cI, cZ, cL, cQ, fun k q hq => ?_, fun k q hq => ?_⟩
  · have hk : k < 8 := (List.getElem?_eq_some_iff.mp hq).1
    rcases (show k = 0 ∨ k = 1 ∨ k = 2 ∨ k = 3 ∨ k = 4 ∨ k = 5 ∨ k = 6 ∨ k = 7 by omega) with rfl | rfl | rfl | rfl | rfl | rfl | rfl | rfl <;> cases hq
    · exact h0
    · exact h1
    · exact h2
    · exact h3
    · exact h4
    · exact h5
    · exact h6
    · exact h7
  · have hk : k < 4 := (List.getElem?_eq_some_iff.mp hq).1
    rcases (show k = 0 ∨ k = 1 ∨ k = 2 ∨ k = 3 by omega) with rfl | rfl | rfl | rfl <;> cases hq
    · exact aI
    · exact aZ
    · exact aL
    · exact ⟨fun n z => ⟨fun k h => (by cases h), kQ, q2, comp, q3⟩, q4⟩
def lj_ad (L : List Nat) : Nat → Nat := fun k => L.getD k 0
theorem jj_init {lo1 hi1 wh1 co1 wh2 : Nat → Int32} (h1 : ∀ j9, j9 < 4 → lo1 j9 = 0 ∧ hi1 j9 = 0 ∧ wh1 j9 = 1 ∧ co1 j9 = 0) (h2 : ∀ j9, j9 < 4 → wh2 j9 = 1) {x : Int32 × Int32 × Int32 × Int32 × (Nat → Int32) × (Nat → Int32)} {y : Int32 × Int64 × Int64 × (Nat → Int64)} :
    lj_JJ (1, 0, lo1, hi1, wh1, co1, fun _ _ => 0, fun _ => 0) (fun _ => 0, fun _ => 0, fun _ => 0, fun _ => 0, fun _ => 0, fun _ => 0) (0, x) (1, 0, fun _ => 0, fun _ => 0, wh2, fun _ => 0, fun _ => 0, fun _ => 0) (fun _ => 0, fun _ => 0, fun _ => 0, fun _ => 0, fun _ => 0, fun _ => 0) (0, y) := by
  refine ⟨⟨⟨Nat.le_refl _, by show 1 ≤ 4; decide⟩, Nat.zero_le _, rfl, rfl, fun j hj => ?_, fun i hi => absurd hi (Nat.not_lt_zero _)⟩, ⟨fun x hx => ?_, fun y hy => ?_⟩, js_0⟩
  · obtain ⟨a1, a2, a3, a4⟩ := h1 j hj
    dsimp only
    rw [a1, a2, a3, a4, h2 j hj]
    exact ⟨⟨⟨⟨by decide, by decide⟩, ⟨by decide, by decide⟩⟩, by decide, Or.inr rfl, Or.inr (by decide), ⟨by decide, by decide⟩⟩, rfl, rfl, rfl, rfl⟩
  · dsimp only
    exact ⟨Or.inl rfl, rfl, ⟨⟨by decide, by decide⟩, rfl⟩, ⟨⟨by decide, by decide⟩, rfl⟩, ⟨⟨by decide, by decide⟩, rfl⟩, ⟨⟨by decide, by decide⟩, rfl⟩, fun q => absurd q (by decide)⟩
  · dsimp only
    exact ⟨⟨by decide, by decide⟩, by decide⟩
theorem lj_15 (x : Int32) : ∃ v : Nat, v < 16 ∧ x &&& 15 = nI v := by
  have hm : (x.toBitVec &&& 15#32).msb = false := by rw [BitVec.msb_and, show (15#32).msb = false by decide, Bool.and_false]
  have hn : (x.toBitVec &&& 15#32).toInt = ((x.toBitVec &&& 15#32).toNat : Int) := BitVec.toInt_eq_toNat_of_msb hm
  have h2 : (x.toBitVec &&& 15#32).toNat ≤ 15 := by rw [BitVec.toNat_and]; exact Nat.and_le_right
  have e1 : (x &&& 15).toInt = (x.toBitVec &&& 15#32).toInt := rfl
  have h0 : ¬ (x &&& 15) < 0 := by
    intro q
    have h := Int32.lt_iff_toInt_lt.mp q
    have z : (0 : Int32).toInt = 0 := rfl
    omega
  obtain ⟨j, hj, e⟩ := nI_of h0
  refine ⟨j, ?_, e⟩
  have h3 : (x &&& 15).toInt = j := by rw [e]; exact nI_toInt hj
  omega
theorem lj_gt {L i : Nat} (hL : L ≤ 4608) (hi : i ≤ 5000) : nI L - 9 < nI i ↔ L < i + 9 := by
  rw [Int32.lt_iff_toInt_lt, Int32.toInt_sub, nI_toInt (by omega), nI_toInt (by omega)]
  have e : (9 : Int32).toInt = 9 := rfl
  rw [e, Int.bmod_eq_of_le (by omega) (by omega)]
  omega
theorem kc_Law_8 : Cond.classLink "AmountPlannerLaw" 8 RR_Planner ∈ tb_all := kl_Law_8
theorem kc_Law_66 : Cond.classLink "AmountPlannerLaw" 66 RR_Model ∈ tb_all := kl_Law_66
