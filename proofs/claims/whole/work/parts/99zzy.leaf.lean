/-! where no whole amount has a choice, numbers prove what they must -/
theorem sm_sp {g : Nat → Int} {a : Nat} : ∀ b, sm_f g (a + b) = sm_f g a + sm_f (fun i => g (a + i)) b
  | 0 => by show sm_f g a = sm_f g a + 0; omega
  | b + 1 => by
    show sm_f g (a + b) + g (a + b) = sm_f g a + (sm_f (fun i => g (a + i)) b + g (a + b))
    rw [sm_sp b]; omega
section LF
variable {bl bm co bd : Nat → Int32} {M : Nat → Nat → Int32} {n k : Nat}
def aa_i (bl bm : Nat → Int32) (M : Nat → Nat → Int32) (bd : Nat → Int32) (n k : Nat) : Nat → Nat → Int := fun i j =>
  if i < n then (if j = n then (bl i).toInt else if j = i then -1 else 0) else if i < n + n then (if j = n then -(bm (i - n)).toInt else if j = i - n then 1 else 0) else if i < n + (n + k) then (if j = n then -(bd (i - (n + n))).toInt else (M (i - (n + n)) j).toInt) else (if j = n then -1 else 0)
theorem aa_1 {i j : Nat} (hi : i < n) (hj : j < n) : aa_i bl bm M bd n k i j = if j = i then -1 else 0 := by unfold aa_i; rw [if_pos hi, if_neg (by omega)]
theorem aa_1n {i : Nat} (hi : i < n) : aa_i bl bm M bd n k i n = (bl i).toInt := by unfold aa_i; rw [if_pos hi, if_pos rfl]
theorem aa_2 {i j : Nat} (hi : i < n) (hj : j < n) : aa_i bl bm M bd n k (n + i) j = if j = i then 1 else 0 := by unfold aa_i; rw [if_neg (by omega), if_pos (by omega), if_neg (by omega), show n + i - n = i by omega]
theorem aa_2n {i : Nat} (hi : i < n) : aa_i bl bm M bd n k (n + i) n = -(bm i).toInt := by unfold aa_i; rw [if_neg (by omega), if_pos (by omega), if_pos rfl, show n + i - n = i by omega]
theorem aa_3 {i j : Nat} (hi : i < k) (hj : j < n) : aa_i bl bm M bd n k (n + (n + i)) j = (M i j).toInt := by unfold aa_i; rw [if_neg (by omega), if_neg (by omega), if_pos (by omega), if_neg (by omega), show n + (n + i) - (n + n) = i by omega]
theorem aa_3n {i : Nat} (hi : i < k) : aa_i bl bm M bd n k (n + (n + i)) n = -(bd i).toInt := by unfold aa_i; rw [if_neg (by omega), if_neg (by omega), if_pos (by omega), if_pos rfl, show n + (n + i) - (n + n) = i by omega]
theorem aa_4 {j : Nat} (hj : j < n) : aa_i bl bm M bd n k (n + (n + k)) j = 0 := by unfold aa_i; rw [if_neg (by omega), if_neg (by omega), if_neg (by omega), if_neg (by omega)]
theorem aa_4n : aa_i bl bm M bd n k (n + (n + k)) n = -1 := by unfold aa_i; rw [if_neg (by omega), if_neg (by omega), if_neg (by omega), if_pos rfl]
theorem sm_pk {f : Nat → Int} {q : Nat} (hq : q < n) (t : Int) : sm_f (fun j => (if j = q then t else 0) * f j) n = t * f q := by
  rw [sm_cg n (g := fun j => (if j = q then 1 else 0) * (t * f j)) (fun j _ => by
    by_cases z : j = q
    · rw [if_pos z, if_pos z, Int.one_mul]
    · rw [if_neg z, if_neg z, Int.zero_mul, Int.zero_mul]), sm_one, if_pos hq]
/-- what the rows say of a point -/
theorem aa_ki {X : Nat → Int} (h : ∀ i, i < n + (n + k) + 1 → sm_f (fun j => aa_i bl bm M bd n k i j * X j) (n + 1) ≤ 0) : ki_ok bl bm M bd n k (X n) X ∧ 0 ≤ X n := by
  have row : ∀ i, sm_f (fun j => aa_i bl bm M bd n k i j * X j) (n + 1) = sm_f (fun j => aa_i bl bm M bd n k i j * X j) n + aa_i bl bm M bd n k i n * X n := fun i => rfl
  refine ⟨⟨fun j hj => ⟨?_, ?_⟩, fun i hi => ?_⟩, ?_⟩
  · have a := h j (by omega)
    rw [row, aa_1n hj, sm_cg n (g := fun t => (if t = j then -1 else 0) * X t) (fun t ht => by rw [aa_1 hj ht]), sm_pk hj] at a
    omega
  · have a := h (n + j) (by omega)
    rw [row, aa_2n hj, sm_cg n (g := fun t => (if t = j then 1 else 0) * X t) (fun t ht => by rw [aa_2 hj ht]), sm_pk hj, Int.neg_mul] at a
    omega
  · have a := h (n + (n + i)) (by omega)
    rw [row, aa_3n hi, sm_cg n (g := fun t => (M i t).toInt * X t) (fun t ht => by rw [aa_3 hi ht]), Int.neg_mul] at a
    omega
  · have a := h (n + (n + k)) (by omega)
    rw [row, aa_4n, sm_cg n (g := fun t => (0 : Int) * X t) (fun t ht => by rw [aa_4 ht])] at a
    have : sm_f (fun t => (0 : Int) * X t) n = 0 := by
      rw [sm_cg n (g := fun t => X t * 0) (fun t _ => Int.mul_comm _ _), sm_mul, Int.mul_zero]
    omega
theorem aa_du {κ γ : Int} (hκ : 0 ≤ κ) (hk : k ≤ 6) (hb : ∀ j, j < n → (bl j).toInt ≤ (bm j).toInt) (h : ∀ (d : Int) (x : Nat → Int), 0 ≤ d → ki_ok bl bm M bd n k d x → γ * d ≤ κ * sm_f (fun j => (co j).toInt * x j) n) :
    ∃ (μ : Int) (u : Nat → Int), 0 < μ ∧ (∀ c, c < 7 → 0 ≤ u c) ∧ u 6 = μ * κ ∧ (∀ c, k ≤ c → c < 6 → u c = 0) ∧ μ * γ ≤ ff_i (nme_f co M) (bq_f bd k) (jI bl) (jI bm) n u := by
  obtain ⟨μ, lam, m1, m2, m3⟩ := hb_fk (N := n + 1) (n + (n + k) + 1) (aa_i bl bm M bd n k) (fun j => if j = n then γ else -(κ * (co j).toInt)) (fun X hX => by
    obtain ⟨a1, a2⟩ := aa_ki hX
    have a3 := h (X n) X a2 a1
    show sm_f (fun j => (if j = n then γ else -(κ * (co j).toInt)) * X j) n + (if n = n then γ else -(κ * (co n).toInt)) * X n ≤ 0
    rw [if_pos rfl, sm_cg n (g := fun j => (co j).toInt * X j * (-κ)) (fun j hj => by rw [if_neg (by omega)]; grind), sm_mul]
    have : sm_f (fun j => (co j).toInt * X j) n * (-κ) = -(κ * sm_f (fun j => (co j).toInt * X j) n) := by grind
    omega)
  have hu6 : (fun c => if c < k then lam (n + (n + c)) else if c = 6 then μ * κ else 0) 6 = μ * κ := by
    show (if 6 < k then _ else if 6 = 6 then μ * κ else 0) = _
    rw [if_neg (by omega), if_pos rfl]
  have huc : ∀ c, c < k → (fun c => if c < k then lam (n + (n + c)) else if c = 6 then μ * κ else 0) c = lam (n + (n + c)) := fun c hc => if_pos hc
  have hu0 : ∀ c, k ≤ c → c < 6 → (fun c => if c < k then lam (n + (n + c)) else if c = 6 then μ * κ else 0) c = 0 := fun c h1 h2 => by
    show (if c < k then _ else if c = 6 then _ else _) = _
    rw [if_neg (by omega), if_neg (by omega)]
  have hup : ∀ c, c < 7 → 0 ≤ (fun c => if c < k then lam (n + (n + c)) else if c = 6 then μ * κ else 0) c := fun c hc => by
    dsimp only
    by_cases z : c < k
    · rw [if_pos z]; exact m2 _ (by omega)
    · rw [if_neg z]
      split
      · exact Int.mul_nonneg (by omega) hκ
      · exact Int.le_refl _
  generalize (fun c => if c < k then lam (n + (n + c)) else if c = 6 then μ * κ else 0) = u at hu6 huc hu0 hup
  refine ⟨μ, u, m1, hup, hu6, hu0, ?_⟩
  -- the sums of the rows
  have split : ∀ g : Nat → Int, sm_f g (n + (n + k) + 1) = sm_f g n + (sm_f (fun i => g (n + i)) n + sm_f (fun i => g (n + (n + i))) k) + g (n + (n + k)) := fun g => by
    show sm_f g (n + (n + k)) + g (n + (n + k)) = _
    rw [sm_sp, sm_sp]
  have he : ∀ j, j < n → ev_i (nme_f co M) u j = lam j - lam (n + j) := fun j hj => by
    have a := m3 j (by omega)
    rw [if_neg (by omega), split, aa_4 hj, sm_cg n (f := fun i => lam i * aa_i bl bm M bd n k i j) (g := fun i => (if i = j then -1 else 0) * lam i) (fun i hi => by
      rw [aa_1 hi hj, Int.mul_comm]
      by_cases z : i = j
      · rw [if_pos z, if_pos z.symm]
      · rw [if_neg z, if_neg (fun e => z e.symm)]), sm_pk hj, sm_cg n (f := fun i => lam (n + i) * aa_i bl bm M bd n k (n + i) j) (g := fun i => (if i = j then 1 else 0) * lam (n + i)) (fun i hi => by
      rw [aa_2 hi hj, Int.mul_comm]
      by_cases z : i = j
      · rw [if_pos z, if_pos z.symm]
      · rw [if_neg z, if_neg (fun e => z e.symm)]), sm_pk (f := fun i => lam (n + i)) hj, sm_cg k (g := fun i => (M i j).toInt * u i) (fun i hi => by rw [aa_3 hi hj, huc i hi, Int.mul_comm])] at a
    rw [ev_e hk hu0, hu6]
    have e : (co j).toInt * (μ * κ) = -(μ * -(κ * (co j).toInt)) := by grind
    rw [e, a]; omega
  have hN := m3 n (by omega)
  rw [if_pos rfl, split, aa_4n, sm_cg n (f := fun i => lam i * aa_i bl bm M bd n k i n) (g := fun i => (bl i).toInt * lam i) (fun i hi => by rw [aa_1n hi, Int.mul_comm]), sm_cg n (f := fun i => lam (n + i) * aa_i bl bm M bd n k (n + i) n) (g := fun i => (bm i).toInt * lam (n + i) * (-1)) (fun i hi => by rw [aa_2n hi]; grind), sm_mul, sm_cg k (g := fun i => (bd i).toInt * u i * (-1)) (fun i hi => by rw [aa_3n hi, huc i hi]; grind), sm_mul] at hN
  have hnu := m2 (n + (n + k)) (by omega)
  unfold ff_i lf_i
  rw [bq_e hk]
  have hle : sm_f (fun i => (bl i).toInt * lam i) n + sm_f (fun i => (bm i).toInt * lam (n + i)) n * (-1) ≤ sm_f (fun j => bx_i (nme_f co M) (jI bl) (jI bm) u j * ev_i (nme_f co M) u j) n := by
    rw [← sm_mul, ← sm_add]
    refine sm_le n (fun j hj => ?_)
    unfold bx_i jI
    rw [he j hj]
    have l1 := m2 j (by omega)
    have l2 := m2 (n + j) (by omega)
    have l3 := hb j hj
    by_cases z : lam j - lam (n + j) < 0
    · rw [if_pos z]
      have : 0 ≤ ((bm j).toInt - (bl j).toInt) * lam j := Int.mul_nonneg (by omega) l1
      grind
    · rw [if_neg z]
      have : 0 ≤ ((bm j).toInt - (bl j).toInt) * lam (n + j) := Int.mul_nonneg (by omega) l2
      grind
  omega
end LF
