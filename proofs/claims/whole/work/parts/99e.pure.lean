/-! the reference's rows: bounds of the free amounts, then limits -/
def lf_f (wt bd : Nat → Int32) (fx : Nat → Int64) (i : Nat) : Nat → Int64
  | 0 => (bd i).toInt64
  | j + 1 => lf_f wt bd fx i j - (wt (4 * i + j)).toInt64 * fx j
def mk_v (lo hi wt bd : Nat → Int32) (fx : Nat → Int64) (re : Nat → Nat) (rs n t c : Nat) : Int64 :=
  if t < 2 * rs then (if c < 4 then (if c = t / 2 then 1 else 0) else if t % 2 = 0 then (lo (re (t / 2))).toInt64 else (hi (re (t / 2))).toInt64)
  else (if c < 4 then (if rs ≤ c then 0 else (wt (4 * (t - 2 * rs) + re c)).toInt64) else lf_f wt bd fx (t - 2 * rs) n)
def mk_R (lo hi wt bd : Nat → Int32) (fx : Nat → Int64) (re : Nat → Nat) (rs n : Nat) : Nat → Int64 := fun i => mk_v lo hi wt bd fx re rs n (i / 5) (i % 5)
def pf_ok (R1 RW : Nat → Int64) (q : Nat) : Prop := ∀ i, i < q → R1 i = RW i
theorem pf_z {R1 RW : Nat → Int64} : pf_ok R1 RW 0 := fun _ h => absurd h (Nat.not_lt_zero _)
theorem pf_s {R1 RW : Nat → Int64} {q : Nat} (h : pf_ok R1 RW q) : pf_ok (vp_updL R1 q (RW q)) RW (q + 1) := by
  intro i hi
  by_cases e : i = q
  · subst e; exact pk_uLs
  · rw [pk_uLn e]; exact h i (by omega)
section MK
variable {lo hi wt bd : Nat → Int32} {fx : Nat → Int64} {re : Nat → Nat} {rs n t c : Nat}
theorem mk_at (hc : c < 5) : mk_R lo hi wt bd fx re rs n (5 * t + c) = mk_v lo hi wt bd fx re rs n t c := by
  unfold mk_R; rw [show (5 * t + c) / 5 = t by omega, show (5 * t + c) % 5 = c by omega]
theorem mk_1 (ht : t < 2 * rs) (hc : c < 4) (h : c = t / 2) : 1 = mk_R lo hi wt bd fx re rs n (5 * t + c) := by
  rw [mk_at (by omega)]; unfold mk_v; rw [if_pos ht, if_pos hc, if_pos h]
theorem mk_0 (ht : t < 2 * rs) (hc : c < 4) (h : ¬ c = t / 2) : 0 = mk_R lo hi wt bd fx re rs n (5 * t + c) := by
  rw [mk_at (by omega)]; unfold mk_v; rw [if_pos ht, if_pos hc, if_neg h]
theorem mk_l (ht : t < 2 * rs) (h : t % 2 = 0) : (lo (re (t / 2))).toInt64 = mk_R lo hi wt bd fx re rs n (5 * t + 4) := by
  rw [mk_at (by omega)]; unfold mk_v; rw [if_pos ht, if_neg (by omega), if_pos h]
theorem mk_h (ht : t < 2 * rs) (h : ¬ t % 2 = 0) : (hi (re (t / 2))).toInt64 = mk_R lo hi wt bd fx re rs n (5 * t + 4) := by
  rw [mk_at (by omega)]; unfold mk_v; rw [if_pos ht, if_neg (by omega), if_neg h]
theorem mk_w {i : Nat} (ht : t = 2 * rs + i) (hc : c < 4) (h : ¬ rs ≤ c) : (wt (4 * i + re c)).toInt64 = mk_R lo hi wt bd fx re rs n (5 * t + c) := by
  rw [mk_at (by omega)]; unfold mk_v; rw [if_neg (by omega), if_pos hc, if_neg h, show t - 2 * rs = i by omega]
theorem mk_n (ht : 2 * rs ≤ t) (hc : c < 4) (h : rs ≤ c) : 0 = mk_R lo hi wt bd fx re rs n (5 * t + c) := by
  rw [mk_at (by omega)]; unfold mk_v; rw [if_neg (by omega), if_pos hc, if_pos h]
theorem mk_b {i : Nat} (ht : t = 2 * rs + i) : lf_f wt bd fx i n = mk_R lo hi wt bd fx re rs n (5 * t + 4) := by
  rw [mk_at (by omega)]; unfold mk_v; rw [if_neg (by omega), if_neg (by omega), show t - 2 * rs = i by omega]
end MK
