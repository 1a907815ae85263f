/-! from numbers that prove something one comes to an END of the planner's that does -/
def ev_i (N : Nat → Nat → Int) (u : Nat → Int) (j : Nat) : Int := sm_f (fun c => N j c * u c) 7
def lf_i (N : Nat → Nat → Int) (B : Nat → Int) (n : Nat) (b : Nat → Int) (u : Nat → Int) : Int := sm_f (fun j => b j * ev_i N u j) n - sm_f (fun c => B c * u c) 7
def bx_i (N : Nat → Nat → Int) (a b : Nat → Int) (u : Nat → Int) : Nat → Int := fun j => if ev_i N u j < 0 then b j else a j
def ff_i (N : Nat → Nat → Int) (B a b : Nat → Int) (n : Nat) (u : Nat → Int) : Int := lf_i N B n (bx_i N a b u) u
def gg_ok (bp bq w F : Int) : Prop := (w = 0 ∧ 0 < F) ∨ (0 < w ∧ w * bp ≤ bq * F)
theorem gg_2 {bp bq a F a1 F1 a2 F2 s1 s2 t : Int} (hb : 0 < bq) (h1 : 0 < s1) (h2 : 0 < s2) (p1 : 0 ≤ a1) (p2 : 0 ≤ a2) (ht : 0 < t) (ea : s2 * a1 + s1 * a2 = t * a) (eF : s2 * F1 + s1 * F2 = t * F) (h : gg_ok bp bq a F) : gg_ok bp bq a1 F1 ∨ gg_ok bp bq a2 F2 := by
  have m1 : 0 ≤ s2 * a1 := Int.mul_nonneg (by omega) p1
  have m2 : 0 ≤ s1 * a2 := Int.mul_nonneg (by omega) p2
  refine Classical.byContradiction fun q => ?_
  have q1 : ¬ gg_ok bp bq a1 F1 := fun z => q (Or.inl z)
  have q2 : ¬ gg_ok bp bq a2 F2 := fun z => q (Or.inr z)
  have zz : ∀ {w f : Int}, 0 ≤ w → ¬ gg_ok bp bq w f → (w = 0 ∧ f ≤ 0) ∨ (0 < w ∧ bq * f < w * bp) := fun {w f} hw hn => by
    rcases Int.lt_or_le 0 w with y | y
    · right; refine ⟨y, ?_⟩
      rcases Int.lt_or_le (bq * f) (w * bp) with z | z
      · exact z
      · exact absurd (Or.inr ⟨y, z⟩) hn
    · left; refine ⟨by omega, ?_⟩
      rcases Int.lt_or_le 0 f with z | z
      · exact absurd (Or.inl ⟨by omega, z⟩) hn
      · exact z
  rcases h with ⟨ha, hF⟩ | ⟨ha, hF⟩
  · rw [ha, Int.mul_zero] at ea
    have e1 : a1 = 0 := by
      rcases Int.mul_eq_zero.mp (show s2 * a1 = 0 by omega) with y | y <;> omega
    have e2 : a2 = 0 := by
      rcases Int.mul_eq_zero.mp (show s1 * a2 = 0 by omega) with y | y <;> omega
    have f1 := zz p1 q1
    have f2 := zz p2 q2
    have g1 : s2 * F1 ≤ 0 := Int.mul_nonpos_of_nonneg_of_nonpos (by omega) (by omega)
    have g2 : s1 * F2 ≤ 0 := Int.mul_nonpos_of_nonneg_of_nonpos (by omega) (by omega)
    have g3 : 0 < t * F := Int.mul_pos ht hF
    omega
  · have ta : 0 < t * a := Int.mul_pos ht ha
    have le1 : bq * F1 ≤ a1 * bp := by
      rcases zz p1 q1 with ⟨y1, y2⟩ | ⟨y1, y2⟩
      · rw [y1, Int.zero_mul]; exact Int.mul_nonpos_of_nonneg_of_nonpos (by omega) y2
      · omega
    have le2 : bq * F2 ≤ a2 * bp := by
      rcases zz p2 q2 with ⟨y1, y2⟩ | ⟨y1, y2⟩
      · rw [y1, Int.zero_mul]; exact Int.mul_nonpos_of_nonneg_of_nonpos (by omega) y2
      · omega
    have tG : 0 ≤ t * (bq * F - a * bp) := Int.mul_nonneg (by omega) (by omega)
    have eG : t * (bq * F - a * bp) = s2 * (bq * F1 - a1 * bp) + s1 * (bq * F2 - a2 * bp) := by
      have : t * (bq * F - a * bp) = bq * (t * F) - (t * a) * bp := by grind
      rw [this, ← ea, ← eF]; grind
    have n1 : s2 * (bq * F1 - a1 * bp) ≤ 0 := Int.mul_nonpos_of_nonneg_of_nonpos (by omega) (by omega)
    have n2 : s1 * (bq * F2 - a2 * bp) ≤ 0 := Int.mul_nonpos_of_nonneg_of_nonpos (by omega) (by omega)
    rcases zz p1 q1 with ⟨y1, y2⟩ | ⟨y1, y2⟩
    · rcases zz p2 q2 with ⟨x1, x2⟩ | ⟨x1, x2⟩
      · rw [y1, x1] at ea; omega
      · have : s1 * (bq * F2 - a2 * bp) < 0 := Int.mul_neg_of_pos_of_neg h1 (by omega)
        omega
    · have : s2 * (bq * F1 - a1 * bp) < 0 := Int.mul_neg_of_pos_of_neg h2 (by omega)
      omega
section DU
variable {N : Nat → Nat → Int} {B a b : Nat → Int} {n : Nat} {u z : Nat → Int}
theorem ev_mv {r s : Int} (j : Nat) : ev_i N (fun c => r * u c - s * z c) j = r * ev_i N u j - s * ev_i N z j := hb_l1 7
theorem ev_cg {u v : Nat → Int} (h : ∀ c, c < 7 → u c = v c) (j : Nat) : ev_i N u j = ev_i N v j := sm_cg 7 (fun c hc => by rw [h c hc])
theorem lf_mv {r s : Int} {bb : Nat → Int} : lf_i N B n bb (fun c => r * u c - s * z c) = r * lf_i N B n bb u - s * lf_i N B n bb z := by
  unfold lf_i
  rw [hb_l1, sm_cg n (g := fun j => bb j * (r * ev_i N u j - s * ev_i N z j)) (fun j _ => by rw [ev_mv]), hb_l1]; grind
theorem ff_cell {v : Nat → Int} (h : ∀ j, j < n → (ev_i N u j < 0 → ev_i N v j ≤ 0) ∧ (¬ ev_i N u j < 0 → 0 ≤ ev_i N v j)) : ff_i N B a b n v = lf_i N B n (bx_i N a b u) v := by
  unfold ff_i lf_i
  congr 1
  refine sm_cg n (fun j hj => ?_)
  unfold bx_i
  obtain ⟨h1, h2⟩ := h j hj
  by_cases y : ev_i N u j < 0
  · rw [if_pos y]
    by_cases x : ev_i N v j < 0
    · rw [if_pos x]
    · have e : ev_i N v j = 0 := by have := h1 y; omega
      rw [e, Int.mul_zero, Int.mul_zero]
  · rw [if_neg y, if_neg (by have := h2 y; omega)]
theorem ff_cg {u v : Nat → Int} (h : ∀ c, c < 7 → u c = v c) : ff_i N B a b n u = ff_i N B a b n v := by
  unfold ff_i lf_i bx_i
  rw [sm_cg 7 (g := fun c => B c * v c) (fun c hc => by rw [h c hc]), sm_cg n (g := fun j => (if ev_i N v j < 0 then b j else a j) * ev_i N v j) (fun j _ => by rw [ev_cg h j])]
theorem ff_t {t : Int} (ht : 0 < t) : ff_i N B a b n (fun c => t * u c) = t * ff_i N B a b n u := by
  have e : ∀ c, c < 7 → (fun c => t * u c) c = (fun c => t * u c - 0 * u c) c := fun c _ => by show t * u c = t * u c - 0 * u c; omega
  rw [ff_cg e, ff_cell (u := u) (fun j _ => by
    rw [ev_mv]
    refine ⟨fun y => ?_, fun y => ?_⟩
    · have : t * ev_i N u j ≤ 0 := Int.mul_nonpos_of_nonneg_of_nonpos (by omega) (by omega)
      omega
    · have : 0 ≤ t * ev_i N u j := Int.mul_nonneg (by omega) (by omega)
      omega), lf_mv]
  unfold ff_i; omega
theorem gg_t {bp bq t w F : Int} (ht : 0 < t) : gg_ok bp bq (t * w) (t * F) ↔ gg_ok bp bq w F := by
  have e : ∀ y : Int, (0 < t * y ↔ 0 < y) := fun y => by
    refine ⟨fun h => ?_, fun h => Int.mul_pos ht h⟩
    rcases Int.lt_or_le 0 y with z | z
    · exact z
    · have := Int.mul_nonpos_of_nonneg_of_nonpos (show 0 ≤ t by omega) z
      omega
  have e0 : t * w = 0 ↔ w = 0 := ⟨fun h => by rcases Int.mul_eq_zero.mp h with y | y <;> omega, fun h => by rw [h, Int.mul_zero]⟩
  have e2 : t * w * bp ≤ bq * (t * F) ↔ w * bp ≤ bq * F := by
    rw [show t * w * bp = t * (w * bp) by grind, show bq * (t * F) = t * (bq * F) by grind]
    exact ⟨fun h => Int.le_of_mul_le_mul_left h ht, fun h => Int.mul_le_mul_of_nonneg_left h (by omega)⟩
  unfold gg_ok
  rw [e, e, e0, e2]
theorem hb_sp : ∀ (m : Nat) (z : Nat → Int), (∀ c, c < m → z c ≤ 0) → sm_f z m ≤ 0 ∧ ((∃ i, i < m ∧ z i < 0) → sm_f z m < 0)
  | 0, _, _ => ⟨Int.le_refl _, fun ⟨_, h, _⟩ => absurd h (Nat.not_lt_zero _)⟩
  | m + 1, z, h => by
    obtain ⟨p1, p2⟩ := hb_sp m z (fun c hc => h c (by omega))
    have p3 := h m (by omega)
    show sm_f z m + z m ≤ 0 ∧ (_ → sm_f z m + z m < 0)
    refine ⟨by omega, fun ⟨i, hi, hz⟩ => ?_⟩
    by_cases e : i = m
    · rw [e] at hz; omega
    · have := p2 ⟨i, by omega, hz⟩; omega
theorem hb_sg {m : Nat} {z : Nat → Int} (h0 : sm_f z m = 0) (hn : ∃ i, i < m ∧ ¬ z i = 0) : (∃ i, i < m ∧ 0 < z i) ∧ ∃ i, i < m ∧ 0 < -(z i) := by
  obtain ⟨i, hi, hz⟩ := hn
  refine ⟨Classical.byContradiction fun q => ?_, Classical.byContradiction fun q => ?_⟩
  · have hle : ∀ c, c < m → z c ≤ 0 := fun c hc => by
      rcases Int.lt_or_le 0 (z c) with y | y
      · exact absurd ⟨c, hc, y⟩ q
      · exact y
    have := (hb_sp m z hle).2 ⟨i, hi, by have := hle i hi; omega⟩
    omega
  · have hle : ∀ c, c < m → -(z c) ≤ 0 := fun c hc => by
      rcases Int.lt_or_le 0 (-(z c)) with y | y
      · exact absurd ⟨c, hc, y⟩ q
      · exact y
    have := (hb_sp m (fun c => -(z c)) hle).2 ⟨i, hi, by have := hle i hi; show -(z i) < 0; omega⟩
    rw [sm_cg m (g := fun c => z c * (-1)) (fun c _ => by omega), sm_mul] at this
    omega
def su_i (N : Nat → Nat → Int) (u y : Nat → Int) : Nat → Int := fun i => if i < 7 then y i else if ev_i N u (i - 7) < 0 then -(ev_i N y (i - 7)) else ev_i N y (i - 7)
theorem su_mv {r s : Int} (i : Nat) : su_i N u (fun c => r * u c - s * z c) i = r * su_i N u u i - s * su_i N u z i := by
  unfold su_i
  by_cases h : i < 7
  · rw [if_pos h, if_pos h, if_pos h]
  · rw [if_neg h, if_neg h, if_neg h]
    by_cases y : ev_i N u (i - 7) < 0
    · rw [if_pos y, if_pos y, if_pos y, ev_mv]; grind
    · rw [if_neg y, if_neg y, if_neg y, ev_mv]
def sv_i (N : Nat → Nat → Int) (y : Nat → Int) : Nat → Int := fun i => if i < 7 then y i else ev_i N y (i - 7)
theorem su_z {y : Nat → Int} {i : Nat} : su_i N u y i = 0 ↔ sv_i N y i = 0 := by
  unfold su_i sv_i
  by_cases h : i < 7
  · rw [if_pos h, if_pos h]
  · rw [if_neg h, if_neg h]
    split <;> omega
/-- one step: along z to the next border -/
theorem hb_st (hu : ∀ c, c < 7 → 0 ≤ u c) (hz : ∀ i, i < 7 + n → sv_i N u i = 0 → sv_i N z i = 0) (hp : ∃ i, i < 7 ∧ 0 < z i) : ∃ r s : Int, 0 < r ∧ 0 < s ∧ (∀ c, c < 7 → 0 ≤ r * u c - s * z c) ∧
    (∀ j, j < n → (ev_i N u j < 0 → ev_i N (fun c => r * u c - s * z c) j ≤ 0) ∧ (¬ ev_i N u j < 0 → 0 ≤ ev_i N (fun c => r * u c - s * z c) j)) ∧ (∀ c, c < 7 → u c = 0 → r * u c - s * z c = 0) ∧ cn_n (sv_i N (fun c => r * u c - s * z c)) (7 + n) < cn_n (sv_i N u) (7 + n) := by
  have hs : ∀ i, i < 7 + n → 0 ≤ su_i N u u i := fun i hi => by
    unfold su_i
    by_cases h : i < 7
    · rw [if_pos h]; exact hu i h
    · rw [if_neg h]; split <;> omega
  obtain ⟨i0, h1, h2⟩ := hp
  obtain ⟨i, hi, hpos, hmv⟩ := hb_mv (7 + n) _ (su_i N u z) hs ⟨i0, by omega, by unfold su_i; rw [if_pos h1]; exact h2⟩
  have hsi : 0 < su_i N u u i := by
    have := hs i hi
    have : ¬ su_i N u u i = 0 := fun e => by
      have := (su_z (u := u)).mpr (hz i hi (su_z.mp e))
      omega
    omega
  refine ⟨su_i N u z i, su_i N u u i, hpos, hsi, fun c hc => ?_, fun j hj => ?_, fun c hc e => ?_, ?_⟩
  · have := hmv c (by omega)
    unfold su_i at this ⊢
    rw [if_pos hc, if_pos hc] at this
    exact this
  · have := hmv (7 + j) (by omega)
    rw [← su_mv] at this
    generalize hy : (fun c => su_i N u z i * u c - su_i N u u i * z c) = y at this ⊢
    unfold su_i at this
    rw [if_neg (by omega), show 7 + j - 7 = j by omega] at this
    refine ⟨fun q => ?_, fun q => ?_⟩
    · rw [if_pos q] at this; omega
    · rw [if_neg q] at this; exact this
  · have : sv_i N z c = 0 := hz c (by omega) (by unfold sv_i; rw [if_pos hc]; exact e)
    unfold sv_i at this
    rw [if_pos hc] at this
    rw [e, this]; omega
  · refine cn_lt (j := i) _ hi (fun t ht e => ?_) (fun e => ?_) ?_
    · rw [← su_z (u := u)] at e ⊢
      rw [su_mv, e, su_z.mpr (hz t ht (su_z.mp e))]; omega
    · have := (su_z (u := u)).mpr e
      omega
    · rw [← su_z (u := u), su_mv, Int.mul_comm]; omega
end DU
