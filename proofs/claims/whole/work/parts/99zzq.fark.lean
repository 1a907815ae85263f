/-! what every point keeps is a sum of what is asked (by rows, over the integers); how far one may go -/
theorem hb_l1 {b x y : Nat → Int} {p q : Int} : ∀ N, sm_f (fun j => b j * (p * x j - q * y j)) N = p * sm_f (fun j => b j * x j) N - q * sm_f (fun j => b j * y j) N
  | 0 => by show (0 : Int) = p * 0 - q * 0; omega
  | N + 1 => by
    show sm_f (fun j => b j * (p * x j - q * y j)) N + b N * (p * x N - q * y N) = p * (sm_f (fun j => b j * x j) N + b N * x N) - q * (sm_f (fun j => b j * y j) N + b N * y N)
    rw [hb_l1 N]; grind
theorem hb_l2 {b c x : Nat → Int} {p q : Int} (N : Nat) : sm_f (fun j => (p * b j - q * c j) * x j) N = p * sm_f (fun j => b j * x j) N - q * sm_f (fun j => c j * x j) N := by
  have := hb_l1 (b := x) (x := b) (y := c) (p := p) (q := q) N
  rw [sm_cg N (f := fun j => (p * b j - q * c j) * x j) (g := fun j => x j * (p * b j - q * c j)) (fun j _ => Int.mul_comm _ _), this, sm_cg N (f := fun j => x j * b j) (g := fun j => b j * x j) (fun j _ => Int.mul_comm _ _), sm_cg N (f := fun j => x j * c j) (g := fun j => c j * x j) (fun j _ => Int.mul_comm _ _)]
theorem hb_np {f g : Nat → Int} : ∀ m, (∀ i, i < m → 0 ≤ f i ∧ g i ≤ 0) → sm_f (fun i => f i * g i) m ≤ 0
  | 0, _ => Int.le_refl _
  | m + 1, h => by
    have a := hb_np m (fun i hi => h i (by omega))
    have b := h m (by omega)
    have c : f m * g m ≤ 0 := Int.mul_nonpos_of_nonneg_of_nonpos b.1 b.2
    show sm_f (fun i => f i * g i) m + f m * g m ≤ 0
    omega
theorem hb_fk {N : Nat} : ∀ (m : Nat) (A : Nat → Nat → Int) (c : Nat → Int), (∀ x : Nat → Int, (∀ i, i < m → sm_f (fun j => A i j * x j) N ≤ 0) → sm_f (fun j => c j * x j) N ≤ 0) → ∃ (μ : Int) (lam : Nat → Int), 0 < μ ∧ (∀ i, i < m → 0 ≤ lam i) ∧ ∀ j, j < N → μ * c j = sm_f (fun i => lam i * A i j) m := by
  intro m
  induction m with
  | zero =>
    intro A c h
    refine ⟨1, fun _ => 0, by decide, fun i hi => absurd hi (Nat.not_lt_zero _), fun j hj => ?_⟩
    have h1 := h (fun t => if t = j then 1 else 0) (fun i hi => absurd hi (Nat.not_lt_zero _))
    have h2 := h (fun t => -(if t = j then 1 else 0)) (fun i hi => absurd hi (Nat.not_lt_zero _))
    rw [sm_cg N (g := fun t => (if t = j then 1 else 0) * c t) (fun t _ => Int.mul_comm _ _), sm_one, if_pos hj] at h1
    rw [sm_cg N (g := fun t => (if t = j then 1 else 0) * (-(c t))) (fun t _ => by rw [Int.mul_neg, Int.mul_neg, Int.mul_comm]), sm_one, if_pos hj] at h2
    show 1 * c j = 0
    omega
  | succ m ih =>
    intro A c h
    by_cases H : ∀ x : Nat → Int, (∀ i, i < m → sm_f (fun j => A i j * x j) N ≤ 0) → sm_f (fun j => c j * x j) N ≤ 0
    · obtain ⟨μ, lam, h1, h2, h3⟩ := ih A c H
      refine ⟨μ, fun i => if i < m then lam i else 0, h1, fun i hi => ?_, fun j hj => ?_⟩
      · dsimp only
        by_cases z : i < m
        · rw [if_pos z]; exact h2 i z
        · rw [if_neg z]; exact Int.le_refl _
      · show μ * c j = sm_f (fun i => (if i < m then lam i else 0) * A i j) m + (if m < m then lam m else 0) * A m j
        rw [if_neg (Nat.lt_irrefl m), Int.zero_mul, Int.add_zero, h3 j hj]
        exact sm_cg m (fun i hi => by rw [if_pos hi])
    · obtain ⟨x0, q⟩ := Classical.not_forall.mp H
      obtain ⟨hx, hc⟩ := Classical.not_imp.mp q
      generalize ha : sm_f (fun j => A m j * x0 j) N = a
      have ha0 : 0 < a := by
        refine Classical.byContradiction fun z => hc (h x0 (fun i hi => ?_))
        by_cases e : i = m
        · rw [e, ha]; omega
        · exact hx i (by omega)
      generalize hg : sm_f (fun j => c j * x0 j) N = g at hc
      have key := ih (fun i j => a * A i j - sm_f (fun t => A i t * x0 t) N * A m j) (fun j => a * c j - g * A m j) (fun x hx2 => by
        have z := h (fun j => a * x j - sm_f (fun t => A m t * x t) N * x0 j) (fun i hi => by
          rw [hb_l1]
          by_cases e : i = m
          · rw [e, ha, Int.mul_comm a]; omega
          · have := hx2 i (by omega)
            rw [hb_l2] at this
            rw [Int.mul_comm (sm_f (fun t => A m t * x t) N)]
            exact this)
        rw [hb_l1, hg] at z
        rw [hb_l2, Int.mul_comm g]
        exact z)
      obtain ⟨μ, lam, h1, h2, h3⟩ := key
      refine ⟨μ * a, fun i => if i < m then lam i * a else μ * g - sm_f (fun i => lam i * sm_f (fun t => A i t * x0 t) N) m, Int.mul_pos h1 ha0, fun i hi => ?_, fun j hj => ?_⟩
      · dsimp only
        by_cases z : i < m
        · rw [if_pos z]; exact Int.mul_nonneg (h2 i z) (by omega)
        · rw [if_neg z]
          have b := hb_np m (f := lam) (g := fun i => sm_f (fun t => A i t * x0 t) N) (fun i hi => ⟨h2 i hi, hx i hi⟩)
          have d : 0 ≤ μ * g := Int.mul_nonneg (by omega) (by omega)
          omega
      · have e := h3 j hj
        show μ * a * c j = sm_f (fun i => (if i < m then lam i * a else _) * A i j) m + (if m < m then lam m * a else _) * A m j
        rw [if_neg (Nat.lt_irrefl m), sm_cg m (g := fun i => lam i * a * A i j) (fun i hi => by rw [if_pos hi])]
        have e2 : sm_f (fun i => lam i * (a * A i j - sm_f (fun t => A i t * x0 t) N * A m j)) m = sm_f (fun i => lam i * a * A i j) m - sm_f (fun i => lam i * sm_f (fun t => A i t * x0 t) N) m * A m j := by
          rw [sm_cg m (g := fun i => lam i * (a * A i j - A m j * sm_f (fun t => A i t * x0 t) N)) (fun i _ => by rw [Int.mul_comm (A m j)]), hb_l1, ← Int.mul_comm (A m j)]
          congr 1
          rw [Int.mul_comm a, ← sm_mul m]
          exact sm_cg m (fun i _ => by rw [Int.mul_assoc, Int.mul_assoc, Int.mul_comm a])
        rw [e2] at e
        grind
theorem hb_mv : ∀ (m : Nat) (s r : Nat → Int), (∀ i, i < m → 0 ≤ s i) → (∃ i, i < m ∧ 0 < r i) → ∃ i, i < m ∧ 0 < r i ∧ ∀ t, t < m → 0 ≤ r i * s t - s i * r t := by
  intro m
  induction m with
  | zero => intro s r _ h; obtain ⟨i, h1, -⟩ := h; exact absurd h1 (Nat.not_lt_zero _)
  | succ m ih =>
    intro s r hs h
    have hneg : ∀ i t, i < m + 1 → t < m + 1 → 0 < r i → r t ≤ 0 → 0 ≤ r i * s t - s i * r t := fun i t hi ht h1 h2 => by
      have a : 0 ≤ r i * s t := Int.mul_nonneg (by omega) (hs t ht)
      have b : s i * r t ≤ 0 := Int.mul_nonpos_of_nonneg_of_nonpos (hs i hi) h2
      omega
    by_cases z : ∃ i, i < m ∧ 0 < r i
    · obtain ⟨i, h1, h2, h3⟩ := ih s r (fun i hi => hs i (by omega)) z
      by_cases y : 0 ≤ r i * s m - s i * r m
      · refine ⟨i, by omega, h2, fun t ht => ?_⟩
        by_cases e : t = m
        · rw [e]; exact y
        · exact h3 t (by omega)
      · have hm : 0 < r m := by
          rcases Int.lt_or_le 0 (r m) with q | q
          · exact q
          · exact absurd (hneg i m (by omega) (by omega) h2 q) y
        refine ⟨m, by omega, hm, fun t ht => ?_⟩
        by_cases e : t = m
        · rw [e, Int.mul_comm]; omega
        · rcases Int.lt_or_le 0 (r t) with q | q
          · have c := h3 t (by omega)
            have d1 : 0 ≤ r m * (r i * s t - s i * r t) := Int.mul_nonneg (by omega) c
            have d2 : 0 ≤ r t * (s i * r m - r i * s m) := Int.mul_nonneg (by omega) (by omega)
            have d3 : 0 ≤ r i * (r m * s t - s m * r t) := by
              have : r i * (r m * s t - s m * r t) = r m * (r i * s t - s i * r t) + r t * (s i * r m - r i * s m) := by grind
              rw [this]; omega
            rcases Int.lt_or_le (r m * s t - s m * r t) 0 with y2 | y2
            · have := Int.mul_neg_of_pos_of_neg h2 y2
              omega
            · exact y2
          · exact hneg m t (by omega) (by omega) hm q
    · obtain ⟨i, h1, h2⟩ := h
      have e : i = m := Classical.byContradiction fun q => z ⟨i, by omega, h2⟩
      subst e
      refine ⟨i, by omega, h2, fun t ht => ?_⟩
      by_cases e : t = i
      · rw [e, Int.mul_comm]; omega
      · refine hneg i t (by omega) (by omega) h2 ?_
        rcases Int.lt_or_le 0 (r t) with q | q
        · exact absurd ⟨t, by omega, q⟩ z
        · exact q
