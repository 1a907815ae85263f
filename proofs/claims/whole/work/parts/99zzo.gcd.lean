/-! both sides tell a fraction by its reduced form -/
theorem c3_b (x : Int32) : -2147483648 ≤ x.toInt ∧ x.toInt ≤ 2147483647 := by
  have h1 := x.toInt_le
  have h2 := x.minValue_le_toInt
  rw [show Int32.maxValue.toInt = 2147483647 by decide] at h1
  rw [show Int32.minValue.toInt = -2147483648 by decide] at h2
  exact ⟨h2, h1⟩
theorem c3_div {x y : Int32} {q : Int} (h : x.toInt = y.toInt * q) (hy : ¬ y.toInt = 0) (hb : q.natAbs ≤ 2147483647) : (x / y).toInt = q := by
  rw [Int32.toInt_div, h, Int.mul_tdiv_cancel_left _ hy]
  exact Int.bmod_eq_of_le (by omega) (by omega)
theorem c6_div {x y : Int64} {q : Int} (h : x.toInt = y.toInt * q) (hy : ¬ y.toInt = 0) (hb : q.natAbs ≤ 4000000000000000000) : (x / y).toInt = q := by
  rw [Int64.toInt_div, h, Int.mul_tdiv_cancel_left _ hy]
  exact Int.bmod_eq_of_le (by omega) (by omega)
theorem c3_rem {x y : Int32} (hx : 0 ≤ x.toInt) (hy : 0 < y.toInt) : (x - x / y * y).toInt = ((x.toInt.toNat % y.toInt.toNat : Nat) : Int) := by
  obtain ⟨a, ha⟩ := Int.eq_ofNat_of_zero_le hx
  obtain ⟨b, hb⟩ := Int.eq_ofNat_of_zero_le (Int.le_of_lt hy)
  have bx := c3_b x
  have hq : a / b ≤ a := Nat.div_le_self a b
  have e1 : (x / y).toInt = ((a / b : Nat) : Int) := by
    rw [Int32.toInt_div, ha, hb, show ((a : Int).tdiv (b : Int)) = ((a / b : Nat) : Int) from rfl]
    generalize a / b = t at hq
    exact Int.bmod_eq_of_le (by omega) (by omega)
  have hm : a / b * b ≤ a := Nat.div_mul_le_self a b
  have e2 : (x / y * y).toInt = ((a / b * b : Nat) : Int) := by
    rw [Int32.toInt_mul, e1, hb, ← Int.natCast_mul]
    exact Int.bmod_eq_of_le (by omega) (by omega)
  have e3 : a % b = a - a / b * b := by
    have := Nat.div_add_mod a b
    rw [Nat.mul_comm] at this
    omega
  rw [Int32.toInt_sub, e2, ha, hb, Int.toNat_natCast, Int.toNat_natCast, e3]
  have : ((a - a / b * b : Nat) : Int) = (a : Int) - ((a / b * b : Nat) : Int) := by omega
  rw [this]
  exact Int.bmod_eq_of_le (by omega) (by omega)
theorem cd_int : ∀ (m f : Nat) (x y : Int32), 2 * m + 1 ≤ f → 0 ≤ x.toInt → 0 ≤ y.toInt → y.toInt < ((2 ^ m : Nat) : Int) → (cd_f f x y).toInt = ((Nat.gcd x.toInt.toNat y.toInt.toNat : Nat) : Int) := by
  intro m
  induction m with
  | zero =>
    intro f x y hf hx hy hb
    have e : y = 0 := Int32.toInt_inj.mp (by
      have : ((2 ^ 0 : Nat) : Int) = 1 := rfl
      rw [this] at hb
      rw [show (0 : Int32).toInt = 0 from rfl]; omega)
    obtain ⟨g, rfl⟩ : ∃ g, f = g + 1 := ⟨f - 1, by omega⟩
    subst e
    rw [show cd_f (g + 1) x 0 = x from if_pos rfl, show (0 : Int32).toInt.toNat = 0 from rfl, Nat.gcd_zero_right]
    omega
  | succ m ih =>
    intro f x y hf hx hy hb
    obtain ⟨g, rfl⟩ : ∃ g, f = g + 2 := ⟨f - 2, by omega⟩
    have two : (2 ^ (m + 1) : Nat) = 2 * 2 ^ m := by rw [Nat.pow_succ]; omega
    rw [two] at hb
    by_cases z : y = 0
    · subst z
      rw [show cd_f (g + 2) x 0 = x from if_pos rfl, show (0 : Int32).toInt.toNat = 0 from rfl, Nat.gcd_zero_right]
      omega
    · have hy0 : 0 < y.toInt := by
        have : ¬ y.toInt = 0 := fun q => z (Int32.toInt_inj.mp (by rw [q]; rfl))
        omega
      have r1 := c3_rem hx hy0
      have e1 : cd_f (g + 2) x y = cd_f (g + 1) y (x - x / y * y) := if_neg z
      rw [e1]
      generalize hu : x - x / y * y = u at r1 ⊢
      have hlt : x.toInt.toNat % y.toInt.toNat < y.toInt.toNat := Nat.mod_lt _ (by omega)
      have hg1 : Nat.gcd x.toInt.toNat y.toInt.toNat = Nat.gcd y.toInt.toNat u.toInt.toNat := by
        rw [r1, Int.toNat_natCast, Nat.gcd_comm x.toInt.toNat, Nat.gcd_rec y.toInt.toNat, Nat.gcd_comm]
      rw [hg1]
      by_cases z2 : u = 0
      · subst z2
        rw [show cd_f (g + 1) y 0 = y from if_pos rfl, show (0 : Int32).toInt.toNat = 0 from rfl, Nat.gcd_zero_right]
        omega
      · have hu0 : 0 < u.toInt := by
          have : ¬ u.toInt = 0 := fun q => z2 (Int32.toInt_inj.mp (by rw [q]; rfl))
          omega
        have r2 := c3_rem hy hu0
        have e2 : cd_f (g + 1) y u = cd_f g u (y - y / u * u) := if_neg z2
        rw [e2]
        generalize hv : y - y / u * u = v at r2 ⊢
        have hlt2 : y.toInt.toNat % u.toInt.toNat < u.toInt.toNat := Nat.mod_lt _ (by omega)
        have hg2 : Nat.gcd y.toInt.toNat u.toInt.toNat = Nat.gcd u.toInt.toNat v.toInt.toNat := by
          rw [r2, Int.toNat_natCast, Nat.gcd_comm y.toInt.toNat, Nat.gcd_rec u.toInt.toNat, Nat.gcd_comm]
        rw [hg2]
        have hle : u.toInt.toNat + y.toInt.toNat % u.toInt.toNat ≤ y.toInt.toNat := by
          have h1 := Nat.div_add_mod y.toInt.toNat u.toInt.toNat
          have h2 : 0 < y.toInt.toNat / u.toInt.toNat := Nat.div_pos (by omega) (by omega)
          have h3 : u.toInt.toNat * 1 ≤ u.toInt.toNat * (y.toInt.toNat / u.toInt.toNat) := Nat.mul_le_mul_left _ h2
          omega
        refine ih g u v (by omega) (by omega) (by omega) ?_
        omega
/-- equal fractions have one reduced form -/
theorem rf_eq {p q P Q : Int} (hq : 0 < q) (hQ : 0 < Q) (h : p * Q = P * q) {c d : Nat} (hc : c = Nat.gcd p.natAbs q.natAbs) (hd : d = Nat.gcd P.natAbs Q.natAbs) : ∃ a b : Int, p = c * a ∧ q = c * b ∧ P = d * a ∧ Q = d * b ∧ 0 < c ∧ 0 < d ∧ 0 < b := by
  have c0 : 0 < c := by rw [hc]; exact Nat.gcd_pos_of_pos_right _ (by omega)
  have d0 : 0 < d := by rw [hd]; exact Nat.gcd_pos_of_pos_right _ (by omega)
  have dv1 : (c : Int) ∣ p := by rw [hc]; exact Int.ofNat_dvd_left.mpr (Nat.gcd_dvd_left _ _)
  have dv2 : (c : Int) ∣ q := by rw [hc]; exact Int.ofNat_dvd_left.mpr (Nat.gcd_dvd_right _ _)
  have dv3 : (d : Int) ∣ P := by rw [hd]; exact Int.ofNat_dvd_left.mpr (Nat.gcd_dvd_left _ _)
  have dv4 : (d : Int) ∣ Q := by rw [hd]; exact Int.ofNat_dvd_left.mpr (Nat.gcd_dvd_right _ _)
  obtain ⟨a, ha⟩ := dv1
  obtain ⟨b, hb⟩ := dv2
  obtain ⟨A, hA⟩ := dv3
  obtain ⟨B, hB⟩ := dv4
  have b0 : 0 < b := by
    rw [hb] at hq
    rcases Int.lt_or_le 0 b with z | z
    · exact z
    · have := Int.mul_le_mul_of_nonneg_left z (show (0 : Int) ≤ c by omega)
      rw [Int.mul_zero] at this; omega
  have B0 : 0 < B := by
    rw [hB] at hQ
    rcases Int.lt_or_le 0 B with z | z
    · exact z
    · have := Int.mul_le_mul_of_nonneg_left z (show (0 : Int) ≤ d by omega)
      rw [Int.mul_zero] at this; omega
  have g1 : Nat.Coprime a.natAbs b.natAbs := by
    have : c * Nat.gcd a.natAbs b.natAbs = c := by
      rw [← Nat.gcd_mul_left, ← Int.natAbs_natCast c, ← Int.natAbs_mul, ← Int.natAbs_mul, Int.natAbs_natCast, ← ha, ← hb, ← hc]
    exact Nat.eq_of_mul_eq_mul_left c0 (by rw [this, Nat.mul_one])
  have g2 : Nat.Coprime A.natAbs B.natAbs := by
    have : d * Nat.gcd A.natAbs B.natAbs = d := by
      rw [← Nat.gcd_mul_left, ← Int.natAbs_natCast d, ← Int.natAbs_mul, ← Int.natAbs_mul, Int.natAbs_natCast, ← hA, ← hB, ← hd]
    exact Nat.eq_of_mul_eq_mul_left d0 (by rw [this, Nat.mul_one])
  have e : a * B = A * b := by
    rw [ha, hb, hA, hB] at h
    have h2 : ((c : Int) * d) * (a * B) = ((c : Int) * d) * (A * b) := by
      rw [show ((c : Int) * d) * (a * B) = c * a * (d * B) by grind, h]; grind
    exact Int.eq_of_mul_eq_mul_left (by
      have : (0 : Int) < (c : Int) * d := Int.mul_pos (by omega) (by omega)
      omega) h2
  have en : a.natAbs * B.natAbs = A.natAbs * b.natAbs := by rw [← Int.natAbs_mul, e, Int.natAbs_mul]
  have v1 : b.natAbs ∣ B.natAbs := g1.symm.dvd_of_dvd_mul_left (by rw [en]; exact Nat.dvd_mul_left _ _)
  have v2 : B.natAbs ∣ b.natAbs := g2.symm.dvd_of_dvd_mul_left (by rw [← en]; exact Nat.dvd_mul_left _ _)
  have eb : b = B := by have := Nat.dvd_antisymm v1 v2; omega
  have ea : a = A := by
    rw [← eb] at e
    exact Int.eq_of_mul_eq_mul_right (by omega) e
  exact ⟨a, b, ha, hb, by rw [ea]; exact hA, by rw [eb]; exact hB, c0, d0, b0⟩
theorem pt_eq {p q : Int32} {P Q : Int64} (hq : 0 < q.toInt) (hp : p.toInt.natAbs ≤ 1000000000) (hq2 : q.toInt ≤ 2000000000) (hQ : 0 < Q.toInt) (hP : P.toInt.natAbs ≤ 4000000000000000000) (hQ2 : Q.toInt ≤ 4000000000000000000) (h : p.toInt * Q.toInt = P.toInt * q.toInt) {wv r : Int32} (hr : pt_ok P Q wv r) : r = pt_f p q wv := by
  obtain ⟨d, ⟨g1, g2⟩, g3, g4⟩ := hr
  have d0 := g2 (by omega) (by omega)
  have hab : (ab_f p).toInt = p.toInt.natAbs := by
    unfold ab_f
    by_cases z : 0 ≤ p
    · have := Int32.le_iff_toInt_le.mp z
      rw [show (0 : Int32).toInt = 0 from rfl] at this
      rw [if_pos z]; omega
    · rw [if_neg z, i3_neg (a := 1000000000) hp (by omega)]
      have : ¬ 0 ≤ p.toInt := fun y => z (Int32.le_iff_toInt_le.mpr (by rw [show (0 : Int32).toInt = 0 from rfl]; exact y))
      omega
  have hcd := cd_int 31 64 (ab_f p) q (by omega) (by omega) (by omega) (by have : ((2 ^ 31 : Nat) : Int) = 2147483648 := by decide
                                                                           omega)
  rw [hab, Int.toNat_natCast, show q.toInt.toNat = q.toInt.natAbs by omega] at hcd
  generalize hc : cd_f 64 (ab_f p) q = c at hcd
  obtain ⟨a, b, e1, e2, e3, e4, c1, d1, b1⟩ := rf_eq hq hQ h (c := c.toInt.toNat) (d := gd_m d) (by rw [hcd, Int.toNat_natCast]) g1
  have ec : ((c.toInt.toNat : Nat) : Int) = c.toInt := by omega
  have ed : ((gd_m d : Nat) : Int) = d.toInt := by unfold gd_m; omega
  rw [ec] at e1 e2
  rw [ed] at e3 e4
  have c2 : 0 < c.toInt := by omega
  have d2 : 0 < d.toInt := by unfold gd_m at d1; omega
  have hab2 : a.natAbs ≤ 2000000000 := by
    have e5 : p.toInt.natAbs = c.toInt.natAbs * a.natAbs := by rw [e1, Int.natAbs_mul]
    have : 1 * a.natAbs ≤ c.toInt.natAbs * a.natAbs := Nat.mul_le_mul_right _ (by omega)
    omega
  have hbb2 : b.natAbs ≤ 2000000000 := by
    have e5 : q.toInt.natAbs = c.toInt.natAbs * b.natAbs := by rw [e2, Int.natAbs_mul]
    have : 1 * b.natAbs ≤ c.toInt.natAbs * b.natAbs := Nat.mul_le_mul_right _ (by omega)
    omega
  have h1 : (1 : Int32) ≤ c := Int32.le_iff_toInt_le.mpr (by rw [show (1 : Int32).toInt = 1 from rfl]; omega)
  unfold pt_f
  rw [hc, if_pos h1]
  by_cases z : wv = 0
  · rw [if_pos z]
    rw [if_pos z] at g4
    apply Int32.toInt_inj.mp
    have f1 := c6_div (x := P) (y := d) e3 (by omega) (by omega)
    rw [g4, t3_int (by rw [f1]; omega), f1, c3_div e1 (by omega) (by omega)]
  · rw [if_neg z]
    rw [if_neg z] at g4
    apply Int32.toInt_inj.mp
    have f1 := c6_div (x := Q) (y := d) e4 (by omega) (by omega)
    rw [g4, t3_int (by rw [f1]; omega), f1, c3_div e2 (by omega) (by omega)]
