/-! what the class's own numbers are, as pure functions of its arrays -/
def wg_sum (row x : Nat → Int32) : Nat → Int64
  | 0 => 0
  | j + 1 => wg_sum row x j + (row j).toInt64 * (x j).toInt64
/-- the whole ones among x / qq are whole -/
def wd_ok (wh x : Nat → Int32) (qq : Int32) (n : Nat) : Prop := ∀ j, j < n → ¬ wh j = 0 → ¬ qq = 0 → x j - x j / qq * qq = 0
/-- x / qq keeps leasts and mosts -/
def kb_ok (lo hi x : Nat → Int32) (qq : Int32) (n : Nat) : Prop := ∀ j, j < n → (lo j).toInt64 * qq.toInt64 ≤ (x j).toInt64 ∧ (x j).toInt64 ≤ (hi j).toInt64 * qq.toInt64
/-- x / qq keeps the limits -/
def kl_ok (M : Nat → Nat → Int32) (bd x : Nat → Int32) (qq : Int32) (n k : Nat) : Prop := ∀ i, i < k → wg_sum (M i) x n ≤ (bd i).toInt64 * qq.toInt64
def kp_ok (lo hi : Nat → Int32) (M : Nat → Nat → Int32) (bd x : Nat → Int32) (qq : Int32) (n k : Nat) : Prop := kb_ok lo hi x qq n ∧ kl_ok M bd x qq n k
theorem mm_nle {x y : Int64} (h : ¬ x ≤ y) : y < x := by
  rw [Int64.le_iff_toInt_le] at h; rw [Int64.lt_iff_toInt_lt]; omega
theorem mm_nlt {x y : Int64} (h : ¬ x < y) : y ≤ x := by
  rw [Int64.lt_iff_toInt_lt] at h; rw [Int64.le_iff_toInt_le]; omega
theorem mm_ltn {x y : Int64} (h : x < y) : ¬ y ≤ x := by
  rw [Int64.lt_iff_toInt_lt] at h; rw [Int64.le_iff_toInt_le]; omega
