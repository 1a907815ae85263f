/-! the reference's simple calls, as pure functions -/
theorem i3_nlt {x y : Int32} (h : ¬ x < y) : y ≤ x := by
  rw [Int32.lt_iff_toInt_lt] at h; rw [Int32.le_iff_toInt_le]; omega
theorem i3_nle {x y : Int32} (h : ¬ x ≤ y) : y < x := by
  rw [Int32.le_iff_toInt_le] at h; rw [Int32.lt_iff_toInt_lt]; omega
theorem i3_ltn {x y : Int32} (h : x < y) : ¬ y ≤ x := by
  rw [Int32.lt_iff_toInt_lt] at h; rw [Int32.le_iff_toInt_le]; omega
theorem i3_len {x y : Int32} (h : x ≤ y) : ¬ y < x := by
  rw [Int32.le_iff_toInt_le] at h; rw [Int32.lt_iff_toInt_lt]; omega
theorem in_1 {v a b : Int32} (h : v < a) : tl_ok (a ≤ v ∧ v ≤ b) 0 := tl_f (fun q => i3_ltn h q.1)
theorem in_2 {v a b : Int32} (h : b < v) : tl_ok (a ≤ v ∧ v ≤ b) 0 := tl_f (fun q => i3_ltn h q.2)
theorem in_3 {v a b : Int32} (h1 : ¬ v < a) (h2 : ¬ b < v) : tl_ok (a ≤ v ∧ v ≤ b) 1 := tl_t ⟨i3_nlt h1, i3_nlt h2⟩
/-- an int in 0 .. n - 1, as a natural number -/
theorem in_nat {v : Int32} {n : Nat} (hn : n < 1000) (h : 0 ≤ v ∧ v ≤ nI n) : v = nI v.toNatClampNeg ∧ v.toNatClampNeg ≤ n := by
  obtain ⟨j, hj, e⟩ := nI_of2 (M := nI n) (n := n) (nI_toInt (by omega)) (i3_len h.1) h.2
  rw [e, nI_clamp (by omega)]
  exact ⟨rfl, hj⟩
def in_ok (v a b : Int32) : Prop := a ≤ v ∧ v ≤ b
def pk_f (j : Nat) (x0 x1 x2 x3 : Int32) : Int32 := if j = 0 then x0 else if j = 1 then x1 else if j = 2 then x2 else x3
theorem pf_0 {j : Nat} {x0 x1 x2 x3 : Int32} (h : j = 0) : x0 = pk_f j x0 x1 x2 x3 := (if_pos h).symm
theorem pf_1 {j : Nat} {x0 x1 x2 x3 : Int32} (h0 : ¬ j = 0) (h : j = 1) : x1 = pk_f j x0 x1 x2 x3 := by unfold pk_f; rw [if_neg h0, if_pos h]
theorem pf_2 {j : Nat} {x0 x1 x2 x3 : Int32} (h0 : ¬ j = 0) (h1 : ¬ j = 1) (h : j = 2) : x2 = pk_f j x0 x1 x2 x3 := by unfold pk_f; rw [if_neg h0, if_neg h1, if_pos h]
theorem pf_3 {j : Nat} {x0 x1 x2 x3 : Int32} (h0 : ¬ j = 0) (h1 : ¬ j = 1) (h : ¬ j = 2) : x3 = pk_f j x0 x1 x2 x3 := by unfold pk_f; rw [if_neg h0, if_neg h1, if_neg h]
/-- leasts and mosts that may be told -/
def ag_ok (ls ms wv : Int32) : Prop := (in_ok ls (-20) 20 ∧ in_ok ms (-20) 20) ∧ ¬ ms < ls ∧ (wv = 0 ∨ ¬ 8 < ms - ls)
theorem ag_1 {ls ms wv r : Int32} (p : tl_ok (in_ok ls (-20) 20) r) (h : r = 0) : tl_ok (ag_ok ls ms wv) 0 := tl_f (fun q => tl_0 p h q.1.1)
theorem ag_2 {ls ms wv r : Int32} (p : tl_ok (in_ok ms (-20) 20) r) (h : r = 0) : tl_ok (ag_ok ls ms wv) 0 := tl_f (fun q => tl_0 p h q.1.2)
theorem ag_3 {ls ms wv : Int32} (h : ms < ls) : tl_ok (ag_ok ls ms wv) 0 := tl_f (fun q => q.2.1 h)
theorem ag_4 {ls ms wv : Int32} (h1 : ¬ wv = 0) (h : 8 < ms - ls) : tl_ok (ag_ok ls ms wv) 0 := tl_f (fun q => q.2.2.elim h1 (fun z => z h))
theorem ag_5 {ls ms wv r r2 : Int32} (p : tl_ok (in_ok ls (-20) 20) r) (h : ¬ r = 0) (p2 : tl_ok (in_ok ms (-20) 20) r2) (h2 : ¬ r2 = 0) (h3 : ¬ ms < ls) (h4 : wv = 0) : tl_ok (ag_ok ls ms wv) 1 := tl_t ⟨⟨tl_1 p h, tl_1 p2 h2⟩, h3, Or.inl h4⟩
theorem ag_6 {ls ms wv r r2 : Int32} (p : tl_ok (in_ok ls (-20) 20) r) (h : ¬ r = 0) (p2 : tl_ok (in_ok ms (-20) 20) r2) (h2 : ¬ r2 = 0) (h3 : ¬ ms < ls) (h4 : ¬ 8 < ms - ls) : tl_ok (ag_ok ls ms wv) 1 := tl_t ⟨⟨tl_1 p h, tl_1 p2 h2⟩, h3, Or.inr h4⟩
abbrev am_T : Type := Int32 × (Nat → Int32) × (Nat → Int32) × (Nat → Int32) × Int32
noncomputable def am_f (n : Nat) (jv ls ms wv : Int32) (lo hi wh : Nat → Int32) (so : Int32) : am_T :=
  ci_f (in_ok jv 0 (nI (n - 1))) (ci_f (ag_ok ls ms wv) (0, upd lo jv.toNatClampNeg ls, upd hi jv.toNatClampNeg ms, upd wh jv.toNatClampNeg wv, 0) (2, lo, hi, wh, so)) (1, lo, hi, wh, so)
abbrev cs_T : Type := Int32 × (Nat → Int32) × Int32
noncomputable def cs_f (n : Nat) (jv cv : Int32) (co : Nat → Int32) (so : Int32) : cs_T :=
  ci_f (in_ok jv 0 (nI (n - 1))) (ci_f (in_ok cv (-9) 9) (0, upd co jv.toNatClampNeg cv, 0) (2, co, so)) (1, co, so)
/-- the weights up to j that may be told -/
def lw_ok (n : Nat) (x0 x1 x2 x3 bo : Int32) (j : Nat) : Prop := in_ok bo (-99) 99 ∧ ∀ i, i < j → in_ok (pk_f i x0 x1 x2 x3) (-9) 9 ∧ (i < n ∨ pk_f i x0 x1 x2 x3 = 0)
theorem lo_0 {n : Nat} {x0 x1 x2 x3 bo r : Int32} (p : tl_ok (in_ok bo (-99) 99) r) : tl_ok (lw_ok n x0 x1 x2 x3 bo 0) r := tl_of ⟨fun q => q.1, fun q => ⟨q, fun _ h => absurd h (Nat.not_lt_zero _)⟩⟩ p
theorem lo_a {n : Nat} {x0 x1 x2 x3 bo r : Int32} {j : Nat} (p : tl_ok (lw_ok n x0 x1 x2 x3 bo j) r) (h : r = 0) : tl_ok (lw_ok n x0 x1 x2 x3 bo (j + 1)) 0 := tl_f (fun q => tl_0 p h ⟨q.1, fun i hi => q.2 i (by omega)⟩)
theorem lo_b {n : Nat} {x0 x1 x2 x3 bo r : Int32} {j : Nat} (p : tl_ok (in_ok (pk_f j x0 x1 x2 x3) (-9) 9) r) (h : r = 0) : tl_ok (lw_ok n x0 x1 x2 x3 bo (j + 1)) 0 := tl_f (fun q => tl_0 p h (q.2 j (by omega)).1)
theorem lo_c {n : Nat} {x0 x1 x2 x3 bo : Int32} {j : Nat} (h1 : ¬ j < n) (h : ¬ pk_f j x0 x1 x2 x3 = 0) : tl_ok (lw_ok n x0 x1 x2 x3 bo (j + 1)) 0 := tl_f (fun q => (q.2 j (by omega)).2.elim h1 h)
theorem lo_d {n : Nat} {x0 x1 x2 x3 bo r r2 : Int32} {j : Nat} (p : tl_ok (lw_ok n x0 x1 x2 x3 bo j) r) (h : ¬ r = 0) (p2 : tl_ok (in_ok (pk_f j x0 x1 x2 x3) (-9) 9) r2) (h2 : ¬ r2 = 0) (h3 : j < n ∨ pk_f j x0 x1 x2 x3 = 0) : tl_ok (lw_ok n x0 x1 x2 x3 bo (j + 1)) 1 :=
  tl_t ⟨(tl_1 p h).1, fun i hi => by
    by_cases e : i = j
    · subst e; exact ⟨tl_1 p2 h2, h3⟩
    · exact (tl_1 p h).2 i (by omega)⟩
def lm_w (wt : Nat → Int32) (k : Nat) (x0 x1 x2 x3 : Int32) (j : Nat) : Nat → Int32 := fun i => if 4 * k ≤ i ∧ i < 4 * k + j then pk_f (i - 4 * k) x0 x1 x2 x3 else wt i
theorem lm_0 {wt : Nat → Int32} {k : Nat} {x0 x1 x2 x3 : Int32} : wt = lm_w wt k x0 x1 x2 x3 0 := by funext i; unfold lm_w; rw [if_neg (by omega)]
theorem lm_s {wt w1 : Nat → Int32} {k j : Nat} {x0 x1 x2 x3 : Int32} (e : w1 = lm_w wt k x0 x1 x2 x3 j) : upd w1 (4 * k + j) (pk_f j x0 x1 x2 x3) = lm_w wt k x0 x1 x2 x3 (j + 1) := by
  funext i
  by_cases h : i = 4 * k + j
  · subst h; rw [pk_us]; unfold lm_w; rw [if_pos (by omega), show 4 * k + j - 4 * k = j by omega]
  · rw [pk_un h, e]; unfold lm_w
    by_cases h2 : 4 * k ≤ i ∧ i < 4 * k + j
    · rw [if_pos h2, if_pos (by omega)]
    · rw [if_neg h2, if_neg (by omega)]
/-- row i of the reference's weights -/
def dr_b (bd : Nat → Int32) (i t : Nat) : Nat → Int32 := fun a => if i ≤ a ∧ a < t then bd (a + 1) else bd a
theorem dr_s {bd b1 : Nat → Int32} {i t : Nat} (hi : i ≤ t) (e : b1 = dr_b bd i t) : upd b1 t (b1 (t + 1)) = dr_b bd i (t + 1) := by
  funext a
  by_cases h : a = t
  · subst h; rw [pk_us, e]; unfold dr_b; rw [if_neg (by omega), if_pos (by omega)]
  · rw [pk_un h, e]; unfold dr_b
    by_cases h2 : i ≤ a ∧ a < t
    · rw [if_pos h2, if_pos (by omega)]
    · rw [if_neg h2, if_neg (by omega)]
theorem dr_0 {bd : Nat → Int32} {i : Nat} : bd = dr_b bd i i := by funext a; unfold dr_b; rw [if_neg (by omega)]
def dr_w (wt : Nat → Int32) (i q : Nat) : Nat → Int32 := fun a => if 4 * i ≤ a ∧ a < q then wt (a + 4) else wt a
theorem dw_0 {wt : Nat → Int32} {i : Nat} : wt = dr_w wt i (4 * i) := by funext a; unfold dr_w; rw [if_neg (by omega)]
theorem dw_s {wt w1 : Nat → Int32} {i q : Nat} (hi : 4 * i ≤ q) (e : w1 = dr_w wt i q) : upd w1 q (w1 (q + 4)) = dr_w wt i (q + 1) := by
  funext a
  by_cases h : a = q
  · subst h; rw [pk_us, e]; unfold dr_w; rw [if_neg (by omega), if_pos (by omega)]
  · rw [pk_un h, e]; unfold dr_w
    by_cases h2 : 4 * i ≤ a ∧ a < q
    · rw [if_pos h2, if_pos (by omega)]
    · rw [if_neg h2, if_neg (by omega)]
def mw_sum (w : Nat → Int32) (x : Nat → Int64) : Nat → Int64
  | 0 => 0
  | j + 1 => mw_sum w x j + (w j).toInt64 * x j
def mp_b (lo hi : Nat → Int32) (x : Nat → Int64) (be : Int64) (n : Nat) : Prop := ∀ j, j < n → (lo j).toInt64 * be ≤ x j ∧ x j ≤ (hi j).toInt64 * be
def mp_l (wt bd : Nat → Int32) (x : Nat → Int64) (be : Int64) (n k : Nat) : Prop := ∀ i, i < k → mw_sum (fun j => wt (4 * i + j)) x n ≤ (bd i).toInt64 * be
/-- the reference's test of a plan -/
def mp_ok (lo hi wt bd : Nat → Int32) (x : Nat → Int64) (be : Int64) (n k : Nat) : Prop := mp_b lo hi x be n ∧ mp_l wt bd x be n k
theorem mp_1 {lo hi wt bd : Nat → Int32} {x : Nat → Int64} {be : Int64} {n k j : Nat} (hj : j < n) (h : x j < (lo j).toInt64 * be) : tl_ok (mp_ok lo hi wt bd x be n k) 0 := tl_f (fun q => mm_ltn h (q.1 j hj).1)
theorem mp_2 {lo hi wt bd : Nat → Int32} {x : Nat → Int64} {be : Int64} {n k j : Nat} (hj : j < n) (h : ¬ x j ≤ (hi j).toInt64 * be) : tl_ok (mp_ok lo hi wt bd x be n k) 0 := tl_f (fun q => h (q.1 j hj).2)
theorem mp_3 {lo hi wt bd : Nat → Int32} {x : Nat → Int64} {be : Int64} {n k i : Nat} (hj : i < k) (h : ¬ mw_sum (fun j => wt (4 * i + j)) x n ≤ (bd i).toInt64 * be) : tl_ok (mp_ok lo hi wt bd x be n k) 0 := tl_f (fun q => h (q.2 i hj))
