/-! fractions in order: first the cost, then amount by amount; v 0 is the cost, v (j + 1) the amount j, over d -/
def xl_ok (n : Nat) (va : Nat → Int) (da : Int) (vb : Nat → Int) (db : Int) : Prop := ∃ j, j ≤ n ∧ (∀ i, i < j → va i * db = vb i * da) ∧ va j * db < vb j * da
theorem xq_lt {x y z da db dc : Int} (ha : 0 < da) (hb : 0 < db) (hc : 0 < dc) (h1 : x * db < y * da) (h2 : y * dc ≤ z * db) : x * dc < z * da := by
  have a1 : x * db * dc < y * da * dc := Int.mul_lt_mul_of_pos_right h1 hc
  have a2 : y * dc * da ≤ z * db * da := Int.mul_le_mul_of_nonneg_right h2 (Int.le_of_lt ha)
  have a3 : x * dc * db < z * da * db := by
    have e1 : x * dc * db = x * db * dc := by rw [Int.mul_assoc, Int.mul_comm dc, ← Int.mul_assoc]
    have e2 : y * da * dc = y * dc * da := by rw [Int.mul_assoc, Int.mul_comm da, ← Int.mul_assoc]
    have e3 : z * da * db = z * db * da := by rw [Int.mul_assoc, Int.mul_comm da, ← Int.mul_assoc]
    omega
  exact Int.lt_of_mul_lt_mul_right a3 (Int.le_of_lt hb)
theorem xq_le {x y z da db dc : Int} (ha : 0 < da) (hb : 0 < db) (hc : 0 < dc) (h1 : x * db ≤ y * da) (h2 : y * dc ≤ z * db) : x * dc ≤ z * da := by
  have a1 : x * db * dc ≤ y * da * dc := Int.mul_le_mul_of_nonneg_right h1 (Int.le_of_lt hc)
  have a2 : y * dc * da ≤ z * db * da := Int.mul_le_mul_of_nonneg_right h2 (Int.le_of_lt ha)
  have a3 : x * dc * db ≤ z * da * db := by
    have e1 : x * dc * db = x * db * dc := by rw [Int.mul_assoc, Int.mul_comm dc, ← Int.mul_assoc]
    have e2 : y * da * dc = y * dc * da := by rw [Int.mul_assoc, Int.mul_comm da, ← Int.mul_assoc]
    have e3 : z * da * db = z * db * da := by rw [Int.mul_assoc, Int.mul_comm da, ← Int.mul_assoc]
    omega
  exact Int.le_of_mul_le_mul_right a3 hb
theorem xq_eq {x y z da db dc : Int} (ha : 0 < da) (hb : 0 < db) (hc : 0 < dc) (h1 : x * db = y * da) (h2 : y * dc = z * db) : x * dc = z * da :=
  Int.le_antisymm (xq_le ha hb hc (Int.le_of_eq h1) (Int.le_of_eq h2)) (xq_le hc hb ha (Int.le_of_eq h2.symm) (Int.le_of_eq h1.symm))
theorem xq_lt2 {x y z da db dc : Int} (ha : 0 < da) (hb : 0 < db) (hc : 0 < dc) (h1 : x * db ≤ y * da) (h2 : y * dc < z * db) : x * dc < z * da := by
  rcases Int.lt_or_eq_of_le h1 with h | h
  · exact xq_lt ha hb hc h (Int.le_of_lt h2)
  · rcases Int.lt_trichotomy (x * dc) (z * da) with q | q | q
    · exact q
    · exact absurd (xq_eq hb ha hc h.symm q) (by omega)
    · have := xq_lt (x := z) (y := x) (z := y) hc ha hb q (Int.le_of_eq h)
      omega
section XL
variable {n : Nat} {va vb vc : Nat → Int} {da db dc : Int}
theorem xl_tr (ha : 0 < da) (hb : 0 < db) (hc : 0 < dc) (h1 : xl_ok n va da vb db) (h2 : xl_ok n vb db vc dc) : xl_ok n va da vc dc := by
  obtain ⟨j, hj, e1, l1⟩ := h1
  obtain ⟨k, hk, e2, l2⟩ := h2
  rcases Nat.lt_trichotomy j k with h | h | h
  · refine ⟨j, hj, fun i hi => xq_eq ha hb hc (e1 i hi) (e2 i (by omega)), ?_⟩
    exact xq_lt ha hb hc l1 (Int.le_of_eq (e2 j h))
  · subst h
    exact ⟨j, hj, fun i hi => xq_eq ha hb hc (e1 i hi) (e2 i hi), xq_lt ha hb hc l1 (Int.le_of_lt l2)⟩
  · refine ⟨k, hk, fun i hi => xq_eq ha hb hc (e1 i (by omega)) (e2 i hi), ?_⟩
    exact xq_lt2 ha hb hc (Int.le_of_eq (e1 k h)) l2
theorem xl_ir : ¬ xl_ok n va da va da := fun ⟨_, _, _, h⟩ => absurd h (Int.lt_irrefl _)
theorem xl_3 : xl_ok n va da vb db ∨ xl_ok n vb db va da ∨ ∀ i, i ≤ n → va i * db = vb i * da := by
  have h : ∀ m, (∃ j, j < m ∧ (∀ i, i < j → va i * db = vb i * da) ∧ ¬ va j * db = vb j * da) ∨ ∀ i, i < m → va i * db = vb i * da := by
    intro m
    induction m with
    | zero => exact Or.inr (fun i hi => absurd hi (Nat.not_lt_zero _))
    | succ m ih =>
      rcases ih with ⟨j, a, b, c⟩ | ih
      · exact Or.inl ⟨j, by omega, b, c⟩
      · by_cases e : va m * db = vb m * da
        · exact Or.inr (fun i hi => by rcases Nat.lt_or_eq_of_le (Nat.le_of_lt_succ hi) with q | q; exact ih i q; rw [q]; exact e)
        · exact Or.inl ⟨m, Nat.lt_succ_self _, ih, e⟩
  rcases h (n + 1) with ⟨j, a, b, c⟩ | h
  · rcases Int.lt_trichotomy (va j * db) (vb j * da) with q | q | q
    · exact Or.inl ⟨j, by omega, b, q⟩
    · exact absurd q c
    · exact Or.inr (Or.inl ⟨j, by omega, fun i hi => (b i hi).symm, q⟩)
  · exact Or.inr (Or.inr (fun i hi => h i (by omega)))
theorem xl_cg (ha : 0 < da) (hb : 0 < db) (hc : 0 < dc) (e : ∀ i, i ≤ n → va i * db = vb i * da) (h : xl_ok n va da vc dc) : xl_ok n vb db vc dc := by
  obtain ⟨j, hj, e1, l1⟩ := h
  refine ⟨j, hj, fun i hi => xq_eq hb ha hc (e i (by omega)).symm (e1 i hi), ?_⟩
  exact xq_lt2 hb ha hc (Int.le_of_eq (e j hj).symm) l1
end XL
/-- the amounts and the cost of a plan x over d -/
def vq_f (co : Nat → Int) (n : Nat) (x : Nat → Int) : Nat → Int := fun i => if i = 0 then sm_f (fun j => co j * x j) n else x (i - 1)
theorem sm_cg {f g : Nat → Int} : ∀ n, (∀ j, j < n → f j = g j) → sm_f f n = sm_f g n
  | 0, _ => rfl
  | n + 1, h => by show sm_f f n + f n = sm_f g n + g n; rw [sm_cg n (fun j hj => h j (by omega)), h n (by omega)]
theorem sm_mul {f : Nat → Int} {d : Int} : ∀ n, sm_f (fun j => f j * d) n = sm_f f n * d
  | 0 => by simp [sm_f]
  | n + 1 => by show sm_f (fun j => f j * d) n + f n * d = (sm_f f n + f n) * d; rw [sm_mul n, Int.add_mul]
theorem sm_add {f g : Nat → Int} : ∀ n, sm_f (fun j => f j + g j) n = sm_f f n + sm_f g n
  | 0 => rfl
  | n + 1 => by show sm_f (fun j => f j + g j) n + (f n + g n) = sm_f f n + f n + (sm_f g n + g n); rw [sm_add n]; omega
theorem sm_le {f g : Nat → Int} : ∀ n, (∀ j, j < n → f j ≤ g j) → sm_f f n ≤ sm_f g n
  | 0, _ => Int.le_refl _
  | n + 1, h => by
    have a := sm_le n (fun j hj => h j (by omega))
    have b := h n (by omega)
    show sm_f f n + f n ≤ sm_f g n + g n
    omega
/-- equal amounts have equal costs -/
theorem vq_eq {co x y : Nat → Int} {dx dy : Int} {n : Nat} (h : ∀ j, j < n → x j * dy = y j * dx) : ∀ i, i ≤ n → vq_f co n x i * dy = vq_f co n y i * dx := by
  intro i hi
  unfold vq_f
  by_cases e : i = 0
  · rw [if_pos e, if_pos e, ← sm_mul, ← sm_mul]
    refine sm_cg n (fun j hj => ?_)
    rw [Int.mul_assoc, Int.mul_assoc, h j hj]
  · rw [if_neg e, if_neg e]; exact h (i - 1) (by omega)
