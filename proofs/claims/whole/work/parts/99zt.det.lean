/-! determinants up to four by four over the integers, and the reference's elimination -/
def e1_f (A : Nat → Nat → Int) (r c : Nat) : Int := A 0 0 * A r c - A r 0 * A 0 c
def e2_f (A : Nat → Nat → Int) (r c : Nat) : Int := A 0 0 * (A 1 1 * A r c - A 1 c * A r 1) - A 0 1 * (A 1 0 * A r c - A 1 c * A r 0) + A 0 c * (A 1 0 * A r 1 - A 1 1 * A r 0)
def e3_f (A : Nat → Nat → Int) (r c : Nat) : Int :=
  A 0 0 * (A 1 1 * (A 2 2 * A r c - A 2 c * A r 2) - A 1 2 * (A 2 1 * A r c - A 2 c * A r 1) + A 1 c * (A 2 1 * A r 2 - A 2 2 * A r 1))
  - A 0 1 * (A 1 0 * (A 2 2 * A r c - A 2 c * A r 2) - A 1 2 * (A 2 0 * A r c - A 2 c * A r 0) + A 1 c * (A 2 0 * A r 2 - A 2 2 * A r 0))
  + A 0 2 * (A 1 0 * (A 2 1 * A r c - A 2 c * A r 1) - A 1 1 * (A 2 0 * A r c - A 2 c * A r 0) + A 1 c * (A 2 0 * A r 1 - A 2 1 * A r 0))
  - A 0 c * (A 1 0 * (A 2 1 * A r 2 - A 2 2 * A r 1) - A 1 1 * (A 2 0 * A r 2 - A 2 2 * A r 0) + A 1 2 * (A 2 0 * A r 1 - A 2 1 * A r 0))
def ek_f (k : Nat) (A : Nat → Nat → Int) (r c : Nat) : Int := match k with
  | 0 => A r c
  | 1 => e1_f A r c
  | 2 => e2_f A r c
  | _ => e3_f A r c
/-- the determinant of the first rs rows and columns, rs from 1 to 4 -/
def xd_f (rs : Nat) (A : Nat → Nat → Int) : Int := ek_f (rs - 1) A (rs - 1) (rs - 1)
def pb_f (k : Nat) (A : Nat → Nat → Int) : Int := match k with
  | 0 => 1
  | 1 => A 0 0
  | _ => e1_f A 1 1
theorem e1_e2 (A : Nat → Nat → Int) (r c : Nat) : e1_f A r c * e1_f A 1 1 - e1_f A r 1 * e1_f A 1 c = A 0 0 * e2_f A r c := by unfold e1_f e2_f; grind
set_option maxHeartbeats 4000000 in
theorem e2_e3 (A : Nat → Nat → Int) (r c : Nat) : e2_f A r c * e2_f A 2 2 - e2_f A r 2 * e2_f A 2 c = e1_f A 1 1 * e3_f A r c := by unfold e1_f e2_f e3_f; grind
theorem ek_step (k : Nat) (hk : k ≤ 2) (A : Nat → Nat → Int) (r c : Nat) : ek_f k A r c * ek_f k A k k - ek_f k A r k * ek_f k A k c = pb_f k A * ek_f (k + 1) A r c := by
  rcases (show k = 0 ∨ k = 1 ∨ k = 2 by omega) with rfl | rfl | rfl
  · show A r c * A 0 0 - A r 0 * A 0 c = 1 * (A 0 0 * A r c - A r 0 * A 0 c)
    rw [Int.one_mul, Int.mul_comm (A r c)]
  · exact e1_e2 A r c
  · exact e2_e3 A r c
/-- rows p and k change places -/
def zs_f (A : Nat → Nat → Int) (p k : Nat) : Nat → Nat → Int := fun r c => if r = p then A k c else if r = k then A p c else A r c
theorem ek_cg {k : Nat} (hk : k ≤ 3) {A B : Nat → Nat → Int} {r r' c : Nat} (h : ∀ i, i < k → ∀ j, A i j = B i j) (hr : ∀ j, A r j = B r' j) : ek_f k A r c = ek_f k B r' c := by
  rcases (show k = 0 ∨ k = 1 ∨ k = 2 ∨ k = 3 by omega) with rfl | rfl | rfl | rfl
  · exact hr c
  · show e1_f A r c = e1_f B r' c
    unfold e1_f; rw [h 0 (by decide), h 0 (by decide), hr, hr]
  · show e2_f A r c = e2_f B r' c
    unfold e2_f; simp only [h 0 (by decide), h 1 (by decide), hr]
  · show e3_f A r c = e3_f B r' c
    unfold e3_f; simp only [h 0 (by decide), h 1 (by decide), h 2 (by decide), hr]
theorem ek_zs {k p : Nat} (hk : k ≤ 3) (hp : k ≤ p) {A : Nat → Nat → Int} {r c : Nat} (hr : k ≤ r) : ek_f k (zs_f A p k) r c = ek_f k A (if r = p then k else if r = k then p else r) c := by
  refine ek_cg hk (fun i hi j => ?_) (fun j => ?_)
  · unfold zs_f; rw [if_neg (by omega), if_neg (by omega)]
  · unfold zs_f
    by_cases h1 : r = p
    · rw [if_pos h1, if_pos h1]
    · rw [if_neg h1, if_neg h1]
      by_cases h2 : r = k
      · rw [if_pos h2, if_pos h2]
      · rw [if_neg h2, if_neg h2]
theorem pb_zs {k p : Nat} (hk : k ≤ 2) (hp : k ≤ p) {A : Nat → Nat → Int} : pb_f k (zs_f A p k) = pb_f k A := by
  rcases (show k = 0 ∨ k = 1 ∨ k = 2 by omega) with rfl | rfl | rfl
  · rfl
  · show zs_f A p 1 0 0 = A 0 0
    unfold zs_f; rw [if_neg (by omega), if_neg (by omega)]
  · show e1_f (zs_f A p 2) 1 1 = e1_f A 1 1
    unfold e1_f zs_f
    rw [if_neg (by omega), if_neg (by omega), if_neg (by omega), if_neg (by omega), if_neg (by omega), if_neg (by omega), if_neg (by omega), if_neg (by omega)]
set_option maxHeartbeats 4000000 in
theorem xd_zs {rs p k : Nat} (hrs : rs ≤ 4) (hk : k < p) (hp : p < rs) {A : Nat → Nat → Int} : xd_f rs (zs_f A p k) = -(xd_f rs A) := by
  rcases (show rs = 2 ∨ rs = 3 ∨ rs = 4 by omega) with rfl | rfl | rfl
  · rcases (show k = 0 ∧ p = 1 by omega) with ⟨rfl, rfl⟩
    show e1_f (zs_f A 1 0) 1 1 = -(e1_f A 1 1)
    simp only [e1_f, zs_f]; simp; grind
  · rcases (show (k = 0 ∧ p = 1) ∨ (k = 0 ∧ p = 2) ∨ (k = 1 ∧ p = 2) by omega) with ⟨rfl, rfl⟩ | ⟨rfl, rfl⟩ | ⟨rfl, rfl⟩ <;>
    · show e2_f (zs_f A _ _) 2 2 = -(e2_f A 2 2)
      simp only [e2_f, zs_f]; simp; grind
  · rcases (show (k = 0 ∧ p = 1) ∨ (k = 0 ∧ p = 2) ∨ (k = 0 ∧ p = 3) ∨ (k = 1 ∧ p = 2) ∨ (k = 1 ∧ p = 3) ∨ (k = 2 ∧ p = 3) by omega) with ⟨rfl, rfl⟩ | ⟨rfl, rfl⟩ | ⟨rfl, rfl⟩ | ⟨rfl, rfl⟩ | ⟨rfl, rfl⟩ | ⟨rfl, rfl⟩ <;>
    · show e3_f (zs_f A _ _) 3 3 = -(e3_f A 3 3)
      simp only [e3_f, zs_f]; simp; grind
set_option maxHeartbeats 4000000 in
theorem e1_d4 (A : Nat → Nat → Int) : A 0 0 * A 0 0 * e3_f A 3 3 = e1_f A 1 1 * (e1_f A 2 2 * e1_f A 3 3 - e1_f A 2 3 * e1_f A 3 2) - e1_f A 2 1 * (e1_f A 1 2 * e1_f A 3 3 - e1_f A 1 3 * e1_f A 3 2) + e1_f A 3 1 * (e1_f A 1 2 * e1_f A 2 3 - e1_f A 1 3 * e1_f A 2 2) := by unfold e1_f e3_f; grind
/-- a stage without a pivot: the determinant is nought -/
theorem xd_0 {rs k : Nat} (hrs : rs ≤ 4) (hk : k + 1 < rs) {A : Nat → Nat → Int} (hb : ¬ pb_f k A = 0) (h0 : k = 2 → ¬ A 0 0 = 0) (h : ∀ r, k ≤ r → r < rs → ek_f k A r k = 0) : xd_f rs A = 0 := by
  rcases (show k = 0 ∨ k = 1 ∨ k = 2 by omega) with rfl | rfl | rfl
  · have g : ∀ r, r < rs → A r 0 = 0 := fun r hr => h r (Nat.zero_le _) hr
    rcases (show rs = 2 ∨ rs = 3 ∨ rs = 4 by omega) with rfl | rfl | rfl
    · show e1_f A 1 1 = 0
      unfold e1_f; rw [g 0 (by decide), g 1 (by decide)]; grind
    · show e2_f A 2 2 = 0
      unfold e2_f; rw [g 0 (by decide), g 1 (by decide), g 2 (by decide)]; grind
    · show e3_f A 3 3 = 0
      unfold e3_f; rw [g 0 (by decide), g 1 (by decide), g 2 (by decide), g 3 (by decide)]; grind
  · have hb' : ¬ A 0 0 = 0 := hb
    rcases (show rs = 3 ∨ rs = 4 by omega) with rfl | rfl
    · have g1 : e1_f A 1 1 = 0 := h 1 (by decide) (by decide)
      have g2 : e1_f A 2 1 = 0 := h 2 (by decide) (by decide)
      have e := e1_e2 A 2 2
      rw [g1, g2, Int.mul_zero, Int.zero_mul, Int.sub_zero] at e
      show e2_f A 2 2 = 0
      rcases Int.mul_eq_zero.mp e.symm with z | z
      · exact absurd z hb'
      · exact z
    · have g1 : e1_f A 1 1 = 0 := h 1 (by decide) (by decide)
      have g2 : e1_f A 2 1 = 0 := h 2 (by decide) (by decide)
      have g3 : e1_f A 3 1 = 0 := h 3 (by decide) (by decide)
      have e := e1_d4 A
      rw [g1, g2, g3, Int.zero_mul, Int.zero_mul, Int.zero_mul] at e
      show e3_f A 3 3 = 0
      rcases Int.mul_eq_zero.mp e with z | z
      · rcases Int.mul_eq_zero.mp z with y | y <;> exact absurd y hb'
      · exact z
  · rcases (show rs = 4 by omega) with rfl
    have hb' : ¬ e1_f A 1 1 = 0 := hb
    have g1 : e2_f A 2 2 = 0 := h 2 (by decide) (by decide)
    have g2 : e2_f A 3 2 = 0 := h 3 (by decide) (by decide)
    have e := e2_e3 A 3 3
    rw [g1, g2, Int.mul_zero, Int.zero_mul, Int.sub_zero] at e
    show e3_f A 3 3 = 0
    rcases Int.mul_eq_zero.mp e.symm with z | z
    · exact absurd z hb'
    · exact z
/-! bounds: one column up to 1000, the others up to 9 -/
def mb_f (cv c : Nat) : Nat := if c = cv then 1000 else 9
def mb_ok (rs cv : Nat) (A : Nat → Nat → Int) : Prop := ∀ r c, r < rs → c < rs → (A r c).natAbs ≤ mb_f cv c
theorem mb_1 (cv c : Nat) : mb_f cv c ≤ 1000 := by unfold mb_f; split <;> omega
theorem mb_2 {cv a b : Nat} (h : a ≠ b) : mb_f cv a * mb_f cv b ≤ 9000 := by
  unfold mb_f
  by_cases h1 : a = cv
  · rw [if_pos h1, if_neg (fun e => h (h1.trans e.symm))]
    decide
  · rw [if_neg h1]
    by_cases h2 : b = cv
    · rw [if_pos h2]; decide
    · rw [if_neg h2]; decide
theorem mb_3 {cv a b c : Nat} (h1 : a ≠ b) (h2 : a ≠ c) (h3 : b ≠ c) : mb_f cv a * mb_f cv b * mb_f cv c ≤ 81000 := by
  by_cases h : c = cv
  · have e1 : mb_f cv a = 9 := if_neg (fun e => h2 (e.trans h.symm))
    have e2 : mb_f cv b = 9 := if_neg (fun e => h3 (e.trans h.symm))
    have e3 := mb_1 cv c
    rw [e1, e2]; omega
  · have e3 : mb_f cv c = 9 := if_neg h
    have := mb_2 (cv := cv) h1
    rw [e3]; omega
theorem nb_m {x y : Int} {a b : Nat} (hx : x.natAbs ≤ a) (hy : y.natAbs ≤ b) : (x * y).natAbs ≤ a * b := by rw [Int.natAbs_mul]; exact Nat.mul_le_mul hx hy
theorem nb_s {x y : Int} {a b : Nat} (hx : x.natAbs ≤ a) (hy : y.natAbs ≤ b) : (x - y).natAbs ≤ a + b := by omega
theorem nb_a {x y : Int} {a b : Nat} (hx : x.natAbs ≤ a) (hy : y.natAbs ≤ b) : (x + y).natAbs ≤ a + b := by omega
theorem nb_le {x : Int} {a b : Nat} (h : x.natAbs ≤ a) (hab : a ≤ b) : x.natAbs ≤ b := Nat.le_trans h hab
theorem nb_d2 {rs cv : Nat} {A : Nat → Nat → Int} (hb : mb_ok rs cv A) {r1 r2 c1 c2 : Nat} (h1 : r1 < rs) (h2 : r2 < rs) (g1 : c1 < rs) (g2 : c2 < rs) : (A r1 c1 * A r2 c2).natAbs ≤ mb_f cv c1 * mb_f cv c2 := nb_m (hb r1 c1 h1 g1) (hb r2 c2 h2 g2)
theorem nb_e1 {rs cv : Nat} {A : Nat → Nat → Int} (hb : mb_ok rs cv A) {r c : Nat} (hr : r < rs) (hc : 0 < c ∧ c < rs) : (e1_f A r c).natAbs ≤ 18000 := by
  have a := nb_d2 hb (r1 := 0) (r2 := r) (c1 := 0) (c2 := c) (by omega) hr (by omega) hc.2
  have b := nb_d2 hb (r1 := r) (r2 := 0) (c1 := 0) (c2 := c) hr (by omega) (by omega) hc.2
  have m := mb_2 (cv := cv) (a := 0) (b := c) (by omega)
  unfold e1_f
  omega
theorem nb_e2 {rs cv : Nat} {A : Nat → Nat → Int} (hb : mb_ok rs cv A) {r c : Nat} (hr : r < rs) (hc : 1 < c ∧ c < rs) : (e2_f A r c).natAbs ≤ 486000 := by
  have m := mb_3 (cv := cv) (a := 0) (b := 1) (c := c) (by omega) (by omega) (by omega)
  have t : ∀ r1 r2 r3, r1 < rs → r2 < rs → r3 < rs → (A r1 0 * (A r2 1 * A r3 c)).natAbs ≤ 81000 := fun r1 r2 r3 h1 h2 h3 =>
    nb_le (nb_m (hb r1 0 h1 (by omega)) (nb_d2 hb h2 h3 (by omega) hc.2)) (by rw [← Nat.mul_assoc]; exact m)
  have a1 := t 0 1 r (by omega) (by omega) hr
  have a2 := t 0 r 1 (by omega) hr (by omega)
  have a3 := t 1 0 r (by omega) (by omega) hr
  have a4 := t r 0 1 hr (by omega) (by omega)
  have a5 := t 1 r 0 (by omega) hr (by omega)
  have a6 := t r 1 0 hr (by omega) (by omega)
  have e : e2_f A r c = A 0 0 * (A 1 1 * A r c) - A 0 0 * (A r 1 * A 1 c) - A 1 0 * (A 0 1 * A r c) + A r 0 * (A 0 1 * A 1 c) + A 1 0 * (A r 1 * A 0 c) - A r 0 * (A 1 1 * A 0 c) := by unfold e2_f; grind
  rw [e]
  omega
theorem nb_ek {rs cv k : Nat} {A : Nat → Nat → Int} (hb : mb_ok rs cv A) (hk : k ≤ 2) {r c : Nat} (hr : r < rs) (hc : k ≤ c ∧ c < rs) : (ek_f k A r c).natAbs ≤ 486000 := by
  rcases (show k = 0 ∨ k = 1 ∨ k = 2 by omega) with rfl | rfl | rfl
  · exact nb_le (hb r c hr hc.2) (Nat.le_trans (mb_1 cv c) (by decide))
  · exact nb_le (nb_e1 hb hr ⟨by omega, hc.2⟩) (by decide)
  · exact nb_e2 hb hr ⟨by omega, hc.2⟩
theorem mb_zs {rs cv p k : Nat} {A : Nat → Nat → Int} (hb : mb_ok rs cv A) (hp : p < rs) (hk : k < rs) : mb_ok rs cv (zs_f A p k) := by
  intro r c hr hc
  unfold zs_f
  by_cases h1 : r = p
  · rw [if_pos h1]; exact hb k c hk hc
  · rw [if_neg h1]
    by_cases h2 : r = k
    · rw [if_pos h2]; exact hb p c hp hc
    · rw [if_neg h2]; exact hb r c hr hc
