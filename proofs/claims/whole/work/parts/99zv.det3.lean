/-! Cramer's rule, transposing, expanding along the first row: for one to four rows -/
def rc_f (A : Nat → Nat → Int) (b : Nat → Int) (c0 : Nat) : Nat → Nat → Int := fun r c => if c = c0 then b r else A r c
def sm_f (f : Nat → Int) : Nat → Int
  | 0 => 0
  | n + 1 => sm_f f n + f n
set_option maxHeartbeats 8000000 in
theorem cr_1 {rs r : Nat} (hrs : 1 ≤ rs ∧ rs ≤ 4) (hr : r < rs) (A : Nat → Nat → Int) (b : Nat → Int) : sm_f (fun c => A r c * xd_f rs (rc_f A b c)) rs = b r * xd_f rs A := by
  rcases (show rs = 1 ∨ rs = 2 ∨ rs = 3 ∨ rs = 4 by omega) with rfl | rfl | rfl | rfl
  · rcases (show r = 0 by omega) with rfl
    simp [sm_f, xd_f, ek_f, rc_f]; grind
  · rcases (show r = 0 ∨ r = 1 by omega) with rfl | rfl <;> (simp [sm_f, xd_f, ek_f, e1_f, rc_f]; grind)
  · rcases (show r = 0 ∨ r = 1 ∨ r = 2 by omega) with rfl | rfl | rfl <;> (simp [sm_f, xd_f, ek_f, e2_f, rc_f]; grind)
  · rcases (show r = 0 ∨ r = 1 ∨ r = 2 ∨ r = 3 by omega) with rfl | rfl | rfl | rfl <;> (simp [sm_f, xd_f, ek_f, e3_f, rc_f]; grind)
set_option maxHeartbeats 8000000 in
theorem cr_2 {rs c : Nat} (hrs : 1 ≤ rs ∧ rs ≤ 4) (hc : c < rs) (A : Nat → Nat → Int) (x : Nat → Int) : xd_f rs (rc_f A (fun r => sm_f (fun c => A r c * x c) rs) c) = xd_f rs A * x c := by
  rcases (show rs = 1 ∨ rs = 2 ∨ rs = 3 ∨ rs = 4 by omega) with rfl | rfl | rfl | rfl
  · rcases (show c = 0 by omega) with rfl
    simp [sm_f, xd_f, ek_f, rc_f]
  · rcases (show c = 0 ∨ c = 1 by omega) with rfl | rfl <;> (simp [sm_f, xd_f, ek_f, e1_f, rc_f]; grind)
  · rcases (show c = 0 ∨ c = 1 ∨ c = 2 by omega) with rfl | rfl | rfl <;> (simp [sm_f, xd_f, ek_f, e2_f, rc_f]; grind)
  · rcases (show c = 0 ∨ c = 1 ∨ c = 2 ∨ c = 3 by omega) with rfl | rfl | rfl | rfl <;> (simp [sm_f, xd_f, ek_f, e3_f, rc_f]; grind)
set_option maxHeartbeats 8000000 in
theorem cr_3 {rs c : Nat} (hrs : 1 ≤ rs ∧ rs ≤ 4) (hc : c < rs) (A : Nat → Nat → Int) (b : Nat → Int) (d : Int) : xd_f rs (rc_f A (fun r => d * b r) c) = d * xd_f rs (rc_f A b c) := by
  rcases (show rs = 1 ∨ rs = 2 ∨ rs = 3 ∨ rs = 4 by omega) with rfl | rfl | rfl | rfl
  · rcases (show c = 0 by omega) with rfl
    simp [xd_f, ek_f, rc_f]
  · rcases (show c = 0 ∨ c = 1 by omega) with rfl | rfl <;> (simp [xd_f, ek_f, e1_f, rc_f]; grind)
  · rcases (show c = 0 ∨ c = 1 ∨ c = 2 by omega) with rfl | rfl | rfl <;> (simp [xd_f, ek_f, e2_f, rc_f]; grind)
  · rcases (show c = 0 ∨ c = 1 ∨ c = 2 ∨ c = 3 by omega) with rfl | rfl | rfl | rfl <;> (simp [xd_f, ek_f, e3_f, rc_f]; grind)
set_option maxHeartbeats 8000000 in
theorem xd_tr {rs : Nat} (hrs : 1 ≤ rs ∧ rs ≤ 4) (A : Nat → Nat → Int) : xd_f rs (fun a b => A b a) = xd_f rs A := by
  rcases (show rs = 1 ∨ rs = 2 ∨ rs = 3 ∨ rs = 4 by omega) with rfl | rfl | rfl | rfl
  · rfl
  · simp [xd_f, ek_f, e1_f]; grind
  · simp [xd_f, ek_f, e2_f]; grind
  · simp [xd_f, ek_f, e3_f]; grind
theorem xd_cg {rs : Nat} (hrs : 1 ≤ rs ∧ rs ≤ 4) {A B : Nat → Nat → Int} (h : ∀ r c, r < rs → c < rs → A r c = B r c) : xd_f rs A = xd_f rs B := by
  rcases (show rs = 1 ∨ rs = 2 ∨ rs = 3 ∨ rs = 4 by omega) with rfl | rfl | rfl | rfl
  · exact h 0 0 (by decide) (by decide)
  · simp only [xd_f, ek_f, e1_f, h _ _ (by decide : 0 < 2) (by decide : 0 < 2), h _ _ (by decide : 0 < 2) (by decide : 1 < 2), h _ _ (by decide : 1 < 2) (by decide : 0 < 2), h _ _ (by decide : 1 < 2) (by decide : 1 < 2), Nat.add_one_sub_one, Nat.reduceSub]
  · simp only [xd_f, ek_f, e2_f, Nat.reduceSub]
    rw [h 0 0 (by decide) (by decide), h 0 1 (by decide) (by decide), h 0 2 (by decide) (by decide), h 1 0 (by decide) (by decide), h 1 1 (by decide) (by decide), h 1 2 (by decide) (by decide), h 2 0 (by decide) (by decide), h 2 1 (by decide) (by decide), h 2 2 (by decide) (by decide)]
  · simp only [xd_f, ek_f, e3_f, Nat.reduceSub]
    rw [h 0 0 (by decide) (by decide), h 0 1 (by decide) (by decide), h 0 2 (by decide) (by decide), h 0 3 (by decide) (by decide), h 1 0 (by decide) (by decide), h 1 1 (by decide) (by decide), h 1 2 (by decide) (by decide), h 1 3 (by decide) (by decide), h 2 0 (by decide) (by decide), h 2 1 (by decide) (by decide), h 2 2 (by decide) (by decide), h 2 3 (by decide) (by decide), h 3 0 (by decide) (by decide), h 3 1 (by decide) (by decide), h 3 2 (by decide) (by decide), h 3 3 (by decide) (by decide)]
/-- what solves the rows, by Cramer's rule -/
theorem cr_u {rs c : Nat} (hrs : 1 ≤ rs ∧ rs ≤ 4) (hc : c < rs) {A : Nat → Nat → Int} {b x : Nat → Int} {d : Int} (h : ∀ r, r < rs → sm_f (fun c => A r c * x c) rs = d * b r) : d * xd_f rs (rc_f A b c) = xd_f rs A * x c := by
  rw [← cr_3 hrs hc, ← cr_2 hrs hc]
  refine xd_cg hrs (fun r c' h1 h2 => ?_)
  unfold rc_f
  by_cases e : c' = c
  · rw [if_pos e, if_pos e]; exact (h r h1).symm
  · rw [if_neg e, if_neg e]
