/-! remainders of longs, greatest common divisors -/
theorem l6_le (x : Int64) : x.toInt ≤ 9223372036854775807 := by
  have := x.toInt_le
  rw [show Int64.maxValue.toInt = 9223372036854775807 by decide] at this
  exact this
theorem l6_ge (x : Int64) : -9223372036854775808 ≤ x.toInt := by
  have := x.minValue_le_toInt
  rw [show Int64.minValue.toInt = -9223372036854775808 by decide] at this
  exact this
theorem l6_rem (x y : Int64) : (x - x / y * y).toInt = x.toInt.tmod y.toInt := by
  rw [Int64.toInt_sub, Int64.toInt_mul, Int64.toInt_div]
  rw [Int.sub_bmod_bmod]
  have h1 : (x.toInt - (x.toInt.tdiv y.toInt).bmod (2 ^ 64) * y.toInt).bmod (2 ^ 64) = (x.toInt - x.toInt.tdiv y.toInt * y.toInt).bmod (2 ^ 64) := by
    rw [← Int.sub_bmod_bmod, Int.bmod_mul_bmod, Int.sub_bmod_bmod]
  rw [h1]
  have h2 : x.toInt - x.toInt.tdiv y.toInt * y.toInt = x.toInt.tmod y.toInt := by
    have := Int.tmod_add_mul_tdiv x.toInt y.toInt
    rw [Int.mul_comm] at this
    omega
  rw [h2]
  have ha := l6_ge x
  have hb := l6_le x
  have e : (x.toInt.tmod y.toInt).natAbs = x.toInt.natAbs % y.toInt.natAbs := Int.natAbs_tmod ..
  have e2 : x.toInt.natAbs % y.toInt.natAbs ≤ x.toInt.natAbs := Nat.mod_le _ _
  have h0 : 0 ≤ x.toInt → 0 ≤ x.toInt.tmod y.toInt := fun h => Int.tmod_nonneg _ h
  have h9 : x.toInt ≤ 0 → x.toInt.tmod y.toInt ≤ 0 := fun h => by
    have := Int.tmod_nonneg (a := -x.toInt) y.toInt (by omega)
    rw [Int.neg_tmod] at this
    omega
  apply Int.bmod_eq_of_le <;> simp <;> omega
theorem gd_rem (x y : Int64) : gd_m (x - x / y * y) = gd_m x % gd_m y := by
  unfold gd_m; rw [l6_rem]; exact Int.natAbs_tmod ..
theorem gd_pos {y : Int64} (h : ¬ y = 0) : 0 < gd_m y := by
  unfold gd_m
  have : y.toInt ≠ 0 := fun q => h (Int64.toInt_inj.mp (by rw [q]; rfl))
  omega
theorem gd_neg (x : Int64) : gd_m (-x) = gd_m x := by
  unfold gd_m
  have ha := l6_ge x
  have hb := l6_le x
  rw [Int64.toInt_neg]
  by_cases h : x.toInt = -(2 ^ 63)
  · rw [h]; decide
  · have e : (-x.toInt).bmod (2 ^ 64) = -x.toInt := by
      apply Int.bmod_eq_of_le <;> simp <;> omega
    rw [e]; omega
def gd_ok (a b r : Int64) : Prop := gd_m r = Nat.gcd (gd_m a) (gd_m b) ∧ (0 ≤ b.toInt → -9223372036854775808 < a.toInt → 0 ≤ r.toInt)
def gi_ok (a b x y : Int64) : Prop := Nat.gcd (gd_m x) (gd_m y) = Nat.gcd (gd_m a) (gd_m b) ∧ (0 ≤ b.toInt → -9223372036854775808 < a.toInt → 0 ≤ x.toInt ∧ 0 ≤ y.toInt)
theorem l6_neg {a : Int64} (h : -9223372036854775808 < a.toInt) : (-a).toInt = -a.toInt := by
  rw [Int64.toInt_neg]
  have := l6_le a
  apply Int.bmod_eq_of_le <;> simp <;> omega
theorem gi_1 {a b : Int64} (h : 0 ≤ a) : gi_ok a b a b := ⟨rfl, fun hb _ => ⟨by have := Int64.le_iff_toInt_le.mp h; simpa using this, hb⟩⟩
theorem gi_2 {a b : Int64} (h : ¬ 0 ≤ a) : gi_ok a b (-a) b := ⟨by rw [gd_neg], fun hb ha => ⟨by
  rw [l6_neg ha]
  have := fun q => h (Int64.le_iff_toInt_le.mpr q)
  simp at this
  omega, hb⟩⟩
theorem gi_s {a b x y : Int64} (hv : gi_ok a b x y) : gi_ok a b y (x - x / y * y) := by
  refine ⟨?_, fun hb ha => ⟨(hv.2 hb ha).2, ?_⟩⟩
  · rw [gd_rem, Nat.gcd_comm, ← Nat.gcd_rec, Nat.gcd_comm]; exact hv.1
  · rw [l6_rem]; exact Int.tmod_nonneg _ (hv.2 hb ha).1
theorem gi_e {a b x y : Int64} (hv : gi_ok a b x y) (h : y = 0) : gd_ok a b x := by
  refine ⟨?_, fun hb ha => (hv.2 hb ha).1⟩
  have := hv.1
  rw [h, show gd_m 0 = 0 by decide, Nat.gcd_zero_right] at this
  exact this
theorem gd_ne {a b r : Int64} (h : gd_ok a b r) (hb : ¬ b = 0) : ¬ r = 0 := fun q => by
  have h1 := h.1
  rw [q, show gd_m 0 = 0 by decide] at h1
  have := gd_pos hb
  have h2 := Nat.gcd_pos_of_pos_right (gd_m a) this
  omega
theorem gd_dec {x y : Int64} (h : ¬ y = 0) : gd_m (x - x / y * y) < gd_m y := by rw [gd_rem]; exact Nat.mod_lt _ (gd_pos h)
def pt_ok (v bb : Int64) (wv r : Int32) : Prop := ∃ d, gd_ok v bb d ∧ ¬ d = 0 ∧ r = (if wv = 0 then v / d else bb / d).toInt32
/-- the q of a plan that is told, its numbers -/
def kq_ok (x0 x1 x2 x3 qv : Int32) (j : Nat) : Prop := in_ok qv 1 1000 ∧ ∀ i, i < j → in_ok (pk_f i x0 x1 x2 x3) (-20000) 20000
section KQ
variable {x0 x1 x2 x3 qv r r2 : Int32} {j : Nat}
theorem kq_0 (p : tl_ok (in_ok qv 1 1000) r) : tl_ok (kq_ok x0 x1 x2 x3 qv 0) r := tl_of ⟨fun q => q.1, fun q => ⟨q, fun _ h => absurd h (Nat.not_lt_zero _)⟩⟩ p
theorem kq_a (p : tl_ok (kq_ok x0 x1 x2 x3 qv j) r) (h : r = 0) : tl_ok (kq_ok x0 x1 x2 x3 qv (j + 1)) 0 := tl_f (fun q => tl_0 p h ⟨q.1, fun i hi => q.2 i (by omega)⟩)
theorem kq_b (p : tl_ok (in_ok (pk_f j x0 x1 x2 x3) (-20000) 20000) r) (h : r = 0) : tl_ok (kq_ok x0 x1 x2 x3 qv (j + 1)) 0 := tl_f (fun q => tl_0 p h (q.2 j (by omega)))
theorem kq_c (p : tl_ok (kq_ok x0 x1 x2 x3 qv j) r) (h : ¬ r = 0) (p2 : tl_ok (in_ok (pk_f j x0 x1 x2 x3) (-20000) 20000) r2) (h2 : ¬ r2 = 0) : tl_ok (kq_ok x0 x1 x2 x3 qv (j + 1)) 1 :=
  tl_t ⟨(tl_1 p h).1, fun i hi => by
    by_cases e : i = j
    · subst e; exact tl_1 p2 h2
    · exact (tl_1 p h).2 i (by omega)⟩
/-- the whole ones up to j are whole -/
def kw_ok (wh : Nat → Int32) (x0 x1 x2 x3 qv : Int32) (j : Nat) : Prop := ∀ i, i < j → wh i = 0 ∨ (pk_f i x0 x1 x2 x3).toInt64 - (pk_f i x0 x1 x2 x3).toInt64 / qv.toInt64 * qv.toInt64 = 0
theorem kw_0 {wh : Nat → Int32} : tl_ok (kw_ok wh x0 x1 x2 x3 qv 0) 1 := tl_t (fun _ h => absurd h (Nat.not_lt_zero _))
theorem kw_a {wh : Nat → Int32} (p : tl_ok (kw_ok wh x0 x1 x2 x3 qv j) r) (h : r = 0) : tl_ok (kw_ok wh x0 x1 x2 x3 qv (j + 1)) 0 := tl_f (fun q => tl_0 p h (fun i hi => q i (by omega)))
theorem kw_b {wh : Nat → Int32} (h : ¬ wh j = 0) (h2 : ¬ (pk_f j x0 x1 x2 x3).toInt64 - (pk_f j x0 x1 x2 x3).toInt64 / qv.toInt64 * qv.toInt64 = 0) : tl_ok (kw_ok wh x0 x1 x2 x3 qv (j + 1)) 0 := tl_f (fun q => (q j (by omega)).elim h h2)
theorem kw_c {wh : Nat → Int32} (p : tl_ok (kw_ok wh x0 x1 x2 x3 qv j) r) (h : ¬ r = 0) (h2 : wh j = 0 ∨ (pk_f j x0 x1 x2 x3).toInt64 - (pk_f j x0 x1 x2 x3).toInt64 / qv.toInt64 * qv.toInt64 = 0) : tl_ok (kw_ok wh x0 x1 x2 x3 qv (j + 1)) 1 :=
  tl_t (fun i hi => by
    by_cases e : i = j
    · subst e; exact h2
    · exact tl_1 p h i (by omega))
end KQ
theorem l6_q {qv : Int32} (h : in_ok qv 1 1000) : ¬ qv.toInt64 = 0 := fun q => by
  have h1 : qv.toInt64.toInt = 0 := by rw [q]; rfl
  rw [Int32.toInt_toInt64] at h1
  have h2 := Int32.le_iff_toInt_le.mp h.1
  have h3 : (1 : Int32).toInt = 1 := by decide
  omega
