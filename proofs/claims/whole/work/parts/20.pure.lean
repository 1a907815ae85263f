/-! what the class's own numbers are, as pure functions of its arrays -/
def wg_sum (row x : Nat → Int32) : Nat → Int64
  | 0 => 0
  | j + 1 => wg_sum row x j + (row j).toInt64 * (x j).toInt64
/-- the whole ones among x / qq are whole -/
def wd_ok (wh x : Nat → Int32) (qq : Int32) (n : Nat) : Prop := ∀ j, j < n → ¬ wh j = 0 → ¬ qq = 0 → x j - x j / qq * qq = 0
/-- x / qq keeps leasts and mosts -/
def kb_ok (lo hi x : Nat → Int32) (qq : Int32) (n : Nat) : Prop := ∀ j, j < n → (lo j).toInt64 * qq.toInt64 ≤ (x j).toInt64 ∧ (x j).toInt64 ≤ (hi j).toInt64 * qq.toInt64
/-- x / qq keeps the limits -/
def kl_ok (M : Nat → Nat → Int32) (bd x : Nat → Int32) (qq : Int32) (n k : Nat) : Prop := ∀ i, i < k → wg_sum (M i) x n ≤ (bd i).toInt64 * qq.toInt64
def kp_ok (lo hi : Nat → Int32) (M : Nat → Nat → Int32) (bd x : Nat → Int32) (qq : Int32) (n k : Nat) : Prop := kb_ok lo hi x qq n ∧ kl_ok M bd x qq n k
theorem mm_nle {x y : Int64} (h : ¬ x ≤ y) : y < x := by
  rw [Int64.le_iff_toInt_le] at h; rw [Int64.lt_iff_toInt_lt]; omega
theorem mm_nlt {x y : Int64} (h : ¬ x < y) : y ≤ x := by
  rw [Int64.lt_iff_toInt_lt] at h; rw [Int64.le_iff_toInt_le]; omega
theorem mm_ltn {x y : Int64} (h : x < y) : ¬ y ≤ x := by
  rw [Int64.lt_iff_toInt_lt] at h; rw [Int64.le_iff_toInt_le]; omega
theorem sl_step {M M1 : Nat → Nat → Int32} {row : Nat → Int32} {i j : Nat} (hv : ∀ a9 c9, M1 a9 c9 = if a9 = i ∧ c9 < j then row c9 else M a9 c9) : ∀ a9 c9, va_up M1 i (upd (M1 i) j (row j)) a9 c9 = if a9 = i ∧ c9 < j + 1 then row c9 else M a9 c9 := by
  intro a9 c9
  have h := hv a9 c9
  by_cases ha : a9 = i
  · subst ha
    rw [va_up_self]
    by_cases hc : c9 = j
    · subst hc; rw [pk_us, if_pos ⟨rfl, by omega⟩]
    · rw [pk_un hc, h]
      by_cases hlt : c9 < j
      · rw [if_pos ⟨rfl, hlt⟩, if_pos ⟨rfl, by omega⟩]
      · rw [if_neg (fun q => hlt q.2), if_neg (fun q => by omega)]
  · rw [va_up_ne _ _ ha, h, if_neg (fun q => ha q.1), if_neg (fun q => ha q.1)]
theorem sl_stepR {M M1 : Nat → Nat → Int32} {i j t : Nat} (hit : i ≠ t) (hv : ∀ a9 c9, M1 a9 c9 = if a9 = i ∧ c9 < j then M t c9 else M a9 c9) : ∀ a9 c9, va_up M1 i (upd (M1 i) j (M1 t j)) a9 c9 = if a9 = i ∧ c9 < j + 1 then M t c9 else M a9 c9 := by
  have h : M1 t j = M t j := by rw [hv t j, if_neg (fun q => hit q.1.symm)]
  rw [h]
  exact sl_step hv
theorem sl_end {M M1 : Nat → Nat → Int32} {row : Nat → Int32} {i j : Nat} (hj : 4 ≤ j) (hv : ∀ a9 c9, M1 a9 c9 = if a9 = i ∧ c9 < j then row c9 else M a9 c9) : ∀ a9 c9, c9 < 4 → M1 a9 c9 = if a9 = i then row c9 else M a9 c9 := by
  intro a9 c9 h
  rw [hv]
  by_cases ha : a9 = i
  · rw [if_pos ⟨ha, by omega⟩, if_pos ha]
  · rw [if_neg (fun q => ha q.1), if_neg ha]
theorem bg_step {lo hi wh co : Nat → Int32} {mo : Int32} {j : Nat} (hv : ∀ j9, j9 < j → lo j9 = 0 ∧ hi j9 = mo ∧ wh j9 = 1 ∧ co j9 = 0) : ∀ j9, j9 < j + 1 → upd lo j 0 j9 = 0 ∧ upd hi j mo j9 = mo ∧ upd wh j 1 j9 = 1 ∧ upd co j 0 j9 = 0 := by
  intro j9 h
  by_cases he : j9 = j
  · subst he; simp [upd]
  · simp only [upd, if_neg he]; exact hv j9 (by omega)
def rl_ok (M M1 : Nat → Nat → Int32) (bd bd1 : Nat → Int32) (i t : Nat) : Prop := (∀ a9 c9, c9 < 4 → M1 a9 c9 = if i ≤ a9 ∧ a9 < t then M (a9 + 1) c9 else M a9 c9) ∧ (∀ a9, bd1 a9 = if i ≤ a9 ∧ a9 < t then bd (a9 + 1) else bd a9)
theorem rl_0 {M : Nat → Nat → Int32} {bd : Nat → Int32} {i : Nat} : rl_ok M M bd bd i i := ⟨fun a9 c9 _ => by rw [if_neg (by omega)], fun a9 => by rw [if_neg (by omega)]⟩
theorem rl_step {M M1 M2 : Nat → Nat → Int32} {bd bd1 : Nat → Int32} {i t : Nat} (hi : i ≤ t) (hv : rl_ok M M1 bd bd1 i t) (h2 : ∀ a9 c9, c9 < 4 → M2 a9 c9 = if a9 = t then M1 (t + 1) c9 else M1 a9 c9) : rl_ok M M2 bd (upd bd1 t (bd1 (t + 1))) i (t + 1) := by
  refine ⟨fun a9 c9 hc => ?_, fun a9 => ?_⟩
  · rw [h2 a9 c9 hc]
    by_cases ha : a9 = t
    · subst ha; rw [if_pos rfl, hv.1 _ _ hc, if_neg (by omega), if_pos (by omega)]
    · rw [if_neg ha, hv.1 _ _ hc]
      by_cases hb : i ≤ a9 ∧ a9 < t
      · rw [if_pos hb, if_pos (by omega)]
      · rw [if_neg hb, if_neg (by omega)]
  · simp only [upd]
    by_cases ha : a9 = t
    · subst ha; rw [if_pos rfl, hv.2, if_neg (by omega), if_pos (by omega)]
    · rw [if_neg ha, hv.2]
      by_cases hb : i ≤ a9 ∧ a9 < t
      · rw [if_pos hb, if_pos (by omega)]
      · rw [if_neg hb, if_neg (by omega)]
