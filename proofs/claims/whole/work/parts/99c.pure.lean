/-! which entries a determinant looks at -/
def bk_eq (rs : Nat) (m1 m2 : Nat → Int64) : Prop := ∀ r c, r < rs → c < rs → m1 (4 * r + c) = m2 (4 * r + c)
theorem pv_cg {m1 m2 : Nat → Int64} {k rs : Nat} (hk : k < rs) (h : bk_eq rs m1 m2) : ∀ d, d ≤ rs → pv_f m1 k rs d = pv_f m2 k rs d
  | 0, _ => rfl
  | d + 1, hd => by
    show (if m1 (4 * (rs - (d + 1)) + k) = 0 then pv_f m1 k rs d else rs - (d + 1)) = (if m2 (4 * (rs - (d + 1)) + k) = 0 then pv_f m2 k rs d else rs - (d + 1))
    rw [pv_cg hk h d (by omega), h (rs - (d + 1)) k (by omega) hk]
theorem pv_le {m1 : Nat → Int64} {k rs : Nat} : ∀ d, pv_f m1 k rs d ≤ rs
  | 0 => Nat.le_refl _
  | d + 1 => by
    show (if m1 (4 * (rs - (d + 1)) + k) = 0 then pv_f m1 k rs d else rs - (d + 1)) ≤ rs
    by_cases h : m1 (4 * (rs - (d + 1)) + k) = 0
    · rw [if_pos h]; exact pv_le d
    · rw [if_neg h]; omega
theorem sq_cg {m1 m2 : Nat → Int64} {p k rs : Nat} (hp : p < rs) (hk : k < rs) (hrs : rs ≤ 4) (h : bk_eq rs m1 m2) : bk_eq rs (sq_f m1 p k rs) (sq_f m2 p k rs) := by
  intro r c hr hc
  unfold sq_f
  by_cases e : p = k
  · rw [if_pos e, if_pos e]; exact h r c hr hc
  · rw [if_neg e, if_neg e]
    by_cases h1 : 4 * p ≤ 4 * r + c ∧ 4 * r + c < 4 * p + rs
    · rw [if_pos h1, if_pos h1, show 4 * r + c - 4 * p = c by omega]; exact h k c hk hc
    · rw [if_neg h1, if_neg h1]
      by_cases h2 : 4 * k ≤ 4 * r + c ∧ 4 * r + c < 4 * k + rs
      · rw [if_pos h2, if_pos h2, show 4 * r + c - 4 * k = c by omega]; exact h p c hp hc
      · rw [if_neg h2, if_neg h2]; exact h r c hr hc
theorem el_cg {m1 m2 : Nat → Int64} {k rs r0 c0 : Nat} {bf : Int64} (hk : k < rs) (hrs : rs ≤ 4) (h : bk_eq rs m1 m2) : bk_eq rs (el_f m1 k bf rs r0 c0) (el_f m2 k bf rs r0 c0) := by
  intro r c hr hc
  unfold el_f
  have d1 : (4 * r + c) / 4 = r := by omega
  have d2 : (4 * r + c) % 4 = c := by omega
  rw [d1, d2, h r c hr hc, h k k hk hk, h r k hr hk, h k c hk hc]
theorem dt_cg {rs : Nat} (hrs : rs ≤ 4) : ∀ (d : Nat) (m1 m2 : Nat → Int64) (sg bf : Int64) (k : Nat), k + d + 1 = rs → bk_eq rs m1 m2 → dt_f rs d m1 sg bf k = dt_f rs d m2 sg bf k
  | 0, m1, m2, sg, bf, k, hk, h => by
    show sg * m1 (5 * (rs - 1)) = sg * m2 (5 * (rs - 1))
    rw [show 5 * (rs - 1) = 4 * (rs - 1) + (rs - 1) by omega, h (rs - 1) (rs - 1) (by omega) (by omega)]
  | d + 1, m1, m2, sg, bf, k, hk, h => by
    have hp := pv_cg (k := k) (by omega) h (rs - k) (by omega)
    have hle := pv_le (m1 := m2) (k := k) (rs := rs) (rs - k)
    show (if pv_f m1 k rs (rs - k) = rs then 0 else _) = (if pv_f m2 k rs (rs - k) = rs then 0 else _)
    rw [hp]
    by_cases e : pv_f m2 k rs (rs - k) = rs
    · rw [if_pos e, if_pos e]
    · rw [if_neg e, if_neg e]
      have hs := sq_cg (p := pv_f m2 k rs (rs - k)) (k := k) (by omega) (by omega) hrs h
      rw [hs k k (by omega) (by omega)]
      exact dt_cg hrs d _ _ _ _ (k + 1) (by omega) (el_cg (by omega) hrs hs)
def cx_f (c : Nat) (cv : Int32) : Nat := if nI c = cv then 4 else c
theorem cx_le {c : Nat} {cv : Int32} (h : c ≤ 4) : cx_f c cv ≤ 4 := by unfold cx_f; split <;> omega
/-- the picked rows, with a column replaced, so far up to (r, c) -/
def do_f (RW : Nat → Int64) (pk : Nat → Nat) (cv : Int32) (rs : Nat) (m0 : Nat → Int64) (r0 c0 : Nat) : Nat → Int64 := fun i => if (i / 4 < rs ∧ i % 4 < rs) ∧ (i / 4 < r0 ∨ i / 4 = r0 ∧ i % 4 < c0) then RW (5 * pk (i / 4) + cx_f (i % 4) cv) else m0 i
section DO
variable {RW m0 m2 : Nat → Int64} {pk : Nat → Nat} {cv : Int32} {rs r c : Nat}
theorem do_0 : m0 = do_f RW pk cv rs m0 0 0 := by funext i; unfold do_f; rw [if_neg (by omega)]
theorem do_r (hc : rs ≤ c) (e : m2 = do_f RW pk cv rs m0 r c) : m2 = do_f RW pk cv rs m0 (r + 1) 0 := by
  rw [e]; funext i; unfold do_f
  by_cases h : (i / 4 < rs ∧ i % 4 < rs) ∧ (i / 4 < r ∨ i / 4 = r ∧ i % 4 < c)
  · rw [if_pos h, if_pos (by omega)]
  · rw [if_neg h, if_neg (by omega)]
theorem do_s (hr : r < rs) (hc : c < rs) (hrs : rs ≤ 4) (e : m2 = do_f RW pk cv rs m0 r c) : vp_updL m2 (4 * r + c) (RW (5 * pk r + cx_f c cv)) = do_f RW pk cv rs m0 r (c + 1) := by
  have d1 : (4 * r + c) / 4 = r := by omega
  have d2 : (4 * r + c) % 4 = c := by omega
  funext i
  by_cases h : i = 4 * r + c
  · subst h; rw [pk_uLs]; unfold do_f; rw [if_pos (by omega), d1, d2]
  · rw [pk_uLn h, e]; unfold do_f
    by_cases h2 : (i / 4 < rs ∧ i % 4 < rs) ∧ (i / 4 < r ∨ i / 4 = r ∧ i % 4 < c)
    · rw [if_pos h2, if_pos (by omega)]
    · rw [if_neg h2, if_neg (by omega)]
end DO
/-- the determinant of the picked rows with a column replaced -/
def dd_f (RW : Nat → Int64) (pk : Nat → Nat) (cv : Int32) (rs : Nat) : Int64 := dt_f rs (rs - 1) (do_f RW pk cv rs (fun _ => 0) rs 0) 1 1 0
theorem dd_eq {RW m0 : Nat → Int64} {pk : Nat → Nat} {cv : Int32} {rs : Nat} (h : 1 ≤ rs ∧ rs ≤ 4) : dt_f rs (rs - 1) (do_f RW pk cv rs m0 rs 0) 1 1 0 = dd_f RW pk cv rs := by
  refine dt_cg h.2 (rs - 1) _ _ _ _ 0 (by omega) (fun r c hr hc => ?_)
  unfold do_f
  have d1 : (4 * r + c) / 4 = r := by omega
  have d2 : (4 * r + c) % 4 = c := by omega
  rw [d1, d2, if_pos (by omega), if_pos (by omega)]
def sl_f (d : Int64) : Int64 := if 0 ≤ d then 1 else -1
def ct_a (fx tr : Nat → Int64) (be : Int64) (n : Nat) : Nat → Int64 := ml_f (fun j => fx j * be) tr n
def ct_f (RW : Nat → Int64) (pk re : Nat → Nat) (rs : Nat) (sl : Int64) (ta : Nat → Int64) : Nat → (Nat → Int64)
  | 0 => ta
  | c + 1 => vp_updL (ct_f RW pk re rs sl ta c) (re c) (dd_f RW pk (nI c) rs * sl)
