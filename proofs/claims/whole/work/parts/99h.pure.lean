/-! the planner's own small tests -/
def iw_ok (x f : Int32) : Prop := ¬ x < -f ∧ ¬ f < x
def im_ok (x : Int32) : Prop := ¬ x < 0 ∧ ¬ 1000000 < x
theorem iw_1 {x f : Int32} (h : x < -f) : tl_ok (iw_ok x f) 0 := tl_f (fun q => q.1 h)
theorem iw_2 {x f : Int32} (h : f < x) : tl_ok (iw_ok x f) 0 := tl_f (fun q => q.2 h)
theorem iw_3 {x f : Int32} (h1 : ¬ x < -f) (h2 : ¬ f < x) : tl_ok (iw_ok x f) 1 := tl_t ⟨h1, h2⟩
theorem im_1 {x : Int32} (h : x < 0) : tl_ok (im_ok x) 0 := tl_f (fun q => q.1 h)
theorem im_2 {x : Int32} (h : 1000000 < x) : tl_ok (im_ok x) 0 := tl_f (fun q => q.2 h)
theorem im_3 {x : Int32} (h1 : ¬ x < 0) (h2 : ¬ 1000000 < x) : tl_ok (im_ok x) 1 := tl_t ⟨h1, h2⟩
/-- a weight of the amount j that may be told -/
def wg_ok (n j : Nat) (x : Int32) : Prop := (j < n → iw_ok x 9) ∧ (¬ j < n → x = 0)
theorem wg_1 {n j : Nat} {x r : Int32} (h : j < n) (p : tl_ok (iw_ok x 9) r) : tl_ok (wg_ok n j x) r := tl_of ⟨fun q => q.1 h, fun q => ⟨fun _ => q, fun z => absurd h z⟩⟩ p
theorem wg_2 {n j : Nat} {x : Int32} (h : ¬ j < n) (hx : x = 0) : tl_ok (wg_ok n j x) 1 := tl_t ⟨fun z => absurd z h, fun _ => hx⟩
theorem wg_3 {n j : Nat} {x : Int32} (h : ¬ j < n) (hx : ¬ x = 0) : tl_ok (wg_ok n j x) 0 := tl_f (fun q => hx (q.2 h))
def cd_f : Nat → Int32 → Int32 → Int32
  | 0, x, _ => x
  | f + 1, x, y => if y = 0 then x else cd_f f y (x - x / y * y)
def ab_f (x : Int32) : Int32 := if 0 ≤ x then x else -x
def pt_f (p q wv : Int32) : Int32 := if 1 ≤ cd_f 64 (ab_f p) q then (if wv = 0 then p else q) / cd_f 64 (ab_f p) q else 0
theorem cd_s {f : Nat} {x y z : Int32} (h : ¬ y = 0) (hv : cd_f (f + 1) x y = z) : cd_f f y (x - x / y * y) = z := by rw [← hv]; exact (if_neg h).symm
theorem cd_e {f : Nat} {x y z : Int32} (h : y = 0) (hv : cd_f (f + 1) x y = z) : x = z := by rw [← hv]; exact (if_pos h).symm
theorem pt_0 {p q wv c : Int32} (hc : c = cd_f 64 (ab_f p) q) (h : ¬ 1 ≤ c) : 0 = pt_f p q wv := by rw [hc] at h; exact (if_neg h).symm
theorem pt_p {p q wv c : Int32} (hc : c = cd_f 64 (ab_f p) q) (h : 1 ≤ c) (hw : wv = 0) : p / c = pt_f p q wv := by rw [hc] at h ⊢; unfold pt_f; rw [if_pos h, if_pos hw]
theorem pt_q {p q wv c : Int32} (hc : c = cd_f 64 (ab_f p) q) (h : 1 ≤ c) (hw : ¬ wv = 0) : q / c = pt_f p q wv := by rw [hc] at h ⊢; unfold pt_f; rw [if_pos h, if_neg hw]
theorem pt_ne {c : Int32} (h : 1 ≤ c) : ¬ c = 0 := fun q => by rw [q] at h; exact absurd h (by decide)
