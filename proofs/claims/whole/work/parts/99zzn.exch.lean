/-! a corner whose free amounts have no room is a corner without them; the planner's solution, whole -/
theorem ez_1 {N : Nat → Nat → Int} {R C : List Nat} {a : Nat} (hl : R.length = C.length) (h4 : R.length ≤ 4) (ha : a < R.length) (h : ¬ dl_f N R C = 0) : ∃ b, b < C.length ∧ ¬ dl_f N (R.eraseIdx a) (C.eraseIdx b) = 0 := by
  refine Classical.byContradiction fun q => h ?_
  have h0 : ∀ b, b < C.length → dl_f N (R.eraseIdx a) (C.eraseIdx b) = 0 := fun b hb => Classical.byContradiction fun z => q ⟨b, hb, z⟩
  have e := fa_det (N := N) hl h4 ha (g := fun _ => 0) (rest := fun b => N (R.getD a 0) (C.getD b 0)) (fun b hb => by rw [h0 b hb]; simp)
  have e0 : ∀ (L : List Nat), L.foldl (fun (x : Int) _ => x + 0) 0 = 0 := fun L => by induction L with
    | nil => rfl
    | cons y L ih => exact ih
  rw [e0] at e
  have e1 : rc_f (at_f N R C) (fun b => N (R.getD a 0) (C.getD b 0)) a = fun b c => lm_f N R C c b := by
    funext b c
    unfold rc_f at_f lm_f
    by_cases z : c = a
    · rw [if_pos z, z]
    · rw [if_neg z]
  rw [e1, xd_tr ⟨by omega, h4⟩] at e
  unfold dl_f
  rw [if_neg (by omega)]
  exact e.symm
theorem pw_ic {m : Nat} {l : List Nat} (h : l.Pairwise (fun a b => a < b)) (hm : ∀ x ∈ l, x < m) : ic_l m l := by
  refine ⟨fun t ht => ?_, fun t ht => hm _ (gd_mem.mpr ⟨t, ht, rfl⟩)⟩
  have := List.pairwise_iff_getElem.mp h t (t + 1) (by omega) ht (by omega)
  simp [List.getD, List.getElem?_eq_getElem (show t < l.length by omega), List.getElem?_eq_getElem ht]
  exact this
theorem ic_er {m : Nat} {l : List Nat} (h : ic_l m l) (t : Nat) : ic_l m (l.eraseIdx t) := by
  refine pw_ic ((ic_pw h).sublist (List.eraseIdx_sublist l t)) (fun x hx => ?_)
  obtain ⟨u, hu, e⟩ := gd_mem.mp ((List.eraseIdx_sublist l t).subset hx)
  rw [← e]; exact h.2 u hu
theorem er_mem {l : List Nat} {t x : Nat} (ht : t < l.length) (h : x ∈ l) : x ∈ l.eraseIdx t ∨ x = l.getD t 0 := by
  rw [List.mem_eraseIdx_iff_getElem]
  obtain ⟨i, hi, e⟩ := List.mem_iff_getElem.mp h
  by_cases z : i = t
  · subst z
    right
    simp [List.getD, List.getElem?_eq_getElem hi, e]
  · exact Or.inl ⟨i, hi, z, e⟩
section EZ
variable {w : Nat → Prop} {lo hi co bd : Nat → Int32} {M : Nat → Nat → Int32} {n k : Nat} {d : Int} {x : Nat → Int}
theorem ez_2 (hq : pq_ok lo hi co M bd n k) (hd : 0 < d) (hki : ki_ok lo hi M bd n k d x) : ∀ (m : Nat) (R C : List Nat), R.length = m → (R.length = C.length ∧ R.length ≤ 4) → ic_l n R → ic_l k C → (∀ j, j ∈ R → ¬ w j) → ¬ dl_f (nn_f M) R C = 0 →
    (∀ i, i ∈ C → sm_f (fun j => (M i j).toInt * x j) n = (bd i).toInt * d) → (∀ j, j < n → j ∈ R ∨ ∃ v : Int, ((lo j).toInt ≤ v ∧ v ≤ (hi j).toInt) ∧ x j = v * d ∧ (¬ w j → v = (lo j).toInt ∨ v = (hi j).toInt)) → ∃ R' C', k2_ok w lo hi M bd n k d x R' C' := by
  intro m
  induction m with
  | zero =>
    intro R C h0 hl hR hC hw hD hS hX
    exact ⟨R, C, hl, hR, hC, fun t ht => absurd ht (by omega), hD, fun t ht => absurd ht (by omega), hX⟩
  | succ m ih =>
    intro R C h0 hl hR hC hw hD hS hX
    by_cases hall : ∀ t, t < R.length → (lo (R.getD t 0)).toInt < (hi (R.getD t 0)).toInt
    · exact ⟨R, C, hl, hR, hC, fun t ht => ⟨hw _ (gd_mem.mpr ⟨t, ht, rfl⟩), hall t ht⟩, hD, fun t ht => hS _ (gd_mem.mpr ⟨t, ht, rfl⟩), hX⟩
    · obtain ⟨t, q⟩ := Classical.not_forall.mp hall
      obtain ⟨ht, q2⟩ := Classical.not_imp.mp q
      obtain ⟨b, hb, hD2⟩ := ez_1 hl.1 hl.2 ht hD
      have e1 : (R.eraseIdx t).length = m := by rw [List.length_eraseIdx_of_lt ht]; omega
      have e2 : (C.eraseIdx b).length = m := by rw [List.length_eraseIdx_of_lt hb]; omega
      refine ih (R.eraseIdx t) (C.eraseIdx b) e1 ⟨by omega, by omega⟩ (ic_er hR t) (ic_er hC b) (fun j hj => hw j ((List.eraseIdx_sublist R t).subset hj)) hD2 (fun i hi => hS i ((List.eraseIdx_sublist C b).subset hi)) (fun j hj => ?_)
      rcases hX j hj with z | z
      · rcases er_mem ht z with y | y
        · exact Or.inl y
        · right
          have a := (hq.2.2.1 j hj).1
          have c := hki.1 j hj
          rw [← y] at q2
          have e : (hi j).toInt = (lo j).toInt := by omega
          rw [e] at c
          exact ⟨(lo j).toInt, ⟨Int.le_refl _, a.2.1⟩, by omega, fun _ => Or.inl rfl⟩
      · exact Or.inr z
theorem ez_3 (hq : pq_ok lo hi co M bd n k) (hd : 0 < d) (hki : ki_ok lo hi M bd n k d x) (hkn : kn_ok w lo hi M bd n k d x) : ∃ R C, k2_ok w lo hi M bd n k d x R C := by
  obtain ⟨R, C, hl, hR, hC, hw, hD, hS, hX⟩ := hkn
  refine ez_2 hq hd hki R.length R C rfl hl hR hC (fun j hj => ?_) hD (fun i hi => ?_) (fun j hj => (hX j hj).imp (fun h => gd_mem.mpr h) id)
  · obtain ⟨t, ht, e⟩ := gd_mem.mp hj
    rw [← e]; exact hw t ht
  · obtain ⟨t, ht, e⟩ := gd_mem.mp hi
    rw [← e]; exact hS t ht
end EZ
