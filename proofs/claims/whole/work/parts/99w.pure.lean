/-! pure rows for the planner's methods that may be refused -/
theorem iw_of {x f : Int32} (h : in_ok x (-f) f) : iw_ok x f := ⟨i3_len h.1, i3_len h.2⟩
theorem of_iw {x f : Int32} (h : iw_ok x f) : in_ok x (-f) f := ⟨i3_nlt h.1, i3_nlt h.2⟩
theorem of_im {x : Int32} (h : im_ok x) : in_ok x 0 1000000 := ⟨i3_nlt h.1, i3_nlt h.2⟩
theorem im_of {x : Int32} (h : in_ok x 0 1000000) : im_ok x := ⟨i3_len h.1, i3_len h.2⟩
theorem wh_01 {wv : Int32} (h1 : ¬ wv < 0) (h2 : wv ≤ 1) : wv = 0 ∨ wv = 1 := by
  have a := Int32.le_iff_toInt_le.mp (i3_nlt h1)
  have b := Int32.le_iff_toInt_le.mp h2
  have c : (0 : Int32).toInt = 0 := rfl
  have d : (1 : Int32).toInt = 1 := rfl
  rw [c] at a; rw [d] at b
  rcases (show wv.toInt = 0 ∨ wv.toInt = 1 by omega) with h | h
  · exact Or.inl (Int32.toInt_inj.mp (by rw [h, c]))
  · exact Or.inr (Int32.toInt_inj.mp (by rw [h, d]))
theorem lw_at {n : Nat} {x0 x1 x2 x3 bo : Int32} (h : lw_ok n x0 x1 x2 x3 bo 4) (j : Nat) (hj : j < 4) : wg_ok n j (pk_f j x0 x1 x2 x3) := ⟨fun _ => iw_of (h.2 j hj).1, fun z => (h.2 j hj).2.resolve_left z⟩
theorem wg_in {n j : Nat} {x : Int32} (h : wg_ok n j x) : in_ok x (-9) 9 ∧ (j < n ∨ x = 0) := by
  by_cases hj : j < n
  · exact ⟨of_iw (h.1 hj), Or.inl hj⟩
  · have := h.2 hj
    exact ⟨by rw [this]; exact ⟨by decide, by decide⟩, Or.inr this⟩
theorem lw_mk {n : Nat} {x0 x1 x2 x3 : Int32} (h0 : wg_ok n 0 x0) (h1 : wg_ok n 1 x1) (h2 : wg_ok n 2 x2) (h3 : wg_ok n 3 x3) : ∀ i, i < 4 → in_ok (pk_f i x0 x1 x2 x3) (-9) 9 ∧ (i < n ∨ pk_f i x0 x1 x2 x3 = 0) := by
  intro i hi
  rcases (show i = 0 ∨ i = 1 ∨ i = 2 ∨ i = 3 by omega) with rfl | rfl | rfl | rfl
  · exact wg_in h0
  · exact wg_in h1
  · exact wg_in h2
  · exact wg_in h3
theorem lm_pk {k : Nat} {M M1 : Nat → Nat → Int32} {td : Nat → Int32} {x0 x1 x2 x3 : Int32} (h : ∀ a9 c9, c9 < 4 → M1 a9 c9 = if a9 = k then upd (upd (upd (upd td 0 x0) 1 x1) 2 x2) 3 x3 c9 else M a9 c9) : ∀ a9 c9, c9 < 4 → M1 a9 c9 = if a9 = k then pk_f c9 x0 x1 x2 x3 else M a9 c9 := by
  intro a9 c9 hc
  rw [h a9 c9 hc]
  by_cases ha : a9 = k
  · rw [if_pos ha, if_pos ha]
    rcases (show c9 = 0 ∨ c9 = 1 ∨ c9 = 2 ∨ c9 = 3 by omega) with rfl | rfl | rfl | rfl <;> simp [upd, pk_f]
  · rw [if_neg ha, if_neg ha]
theorem ks_1 {P Q : Prop} {r : Int32} (p : tl_ok P r) (h : r = 0) : tl_ok (P ∧ Q) 0 := tl_f (fun q => tl_0 p h q.1)
theorem ks_2 {P Q : Prop} {r : Int32} (p : tl_ok Q r) (h : r = 0) : tl_ok (P ∧ Q) 0 := tl_f (fun q => tl_0 p h q.2)
theorem ks_3 {P Q : Prop} {r r2 : Int32} (p : tl_ok P r) (h : ¬ r = 0) (p2 : tl_ok Q r2) (h2 : ¬ r2 = 0) : tl_ok (P ∧ Q) 1 := tl_t ⟨tl_1 p h, tl_1 p2 h2⟩
theorem pk_mk {x0 x1 x2 x3 a b : Int32} (h0 : in_ok x0 a b) (h1 : in_ok x1 a b) (h2 : in_ok x2 a b) (h3 : in_ok x3 a b) : ∀ i, i < 4 → in_ok (pk_f i x0 x1 x2 x3) a b := by
  intro i hi
  rcases (show i = 0 ∨ i = 1 ∨ i = 2 ∨ i = 3 by omega) with rfl | rfl | rfl | rfl
  · exact h0
  · exact h1
  · exact h2
  · exact h3
theorem j3_no {x : Int32} (h : x ≤ 3) (h2 : 4 ≤ x) : False := by
  have a := Int32.le_iff_toInt_le.mp h
  have b := Int32.le_iff_toInt_le.mp h2
  have c : (3 : Int32).toInt = 3 := rfl
  have d : (4 : Int32).toInt = 4 := rfl
  rw [c] at a; rw [d] at b
  omega
theorem j3_yes {x : Int32} (h : ¬ 4 ≤ x) : x ≤ 3 := by
  rw [Int32.le_iff_toInt_le] at h ⊢
  have c : (3 : Int32).toInt = 3 := rfl
  have d : (4 : Int32).toInt = 4 := rfl
  rw [d] at h; rw [c]
  omega
theorem eg_mk {x0 x1 x2 x3 x4 x5 x6 : Int32} (h0 : im_ok x0) (h1 : im_ok x1) (h2 : im_ok x2) (h3 : im_ok x3) (h4 : im_ok x4) (h5 : im_ok x5) (h6 : im_ok x6) : eg_ok x0 x1 x2 x3 x4 x5 x6 7 := by
  intro i hi
  rcases (show i = 0 ∨ i = 1 ∨ i = 2 ∨ i = 3 ∨ i = 4 ∨ i = 5 ∨ i = 6 by omega) with rfl | rfl | rfl | rfl | rfl | rfl | rfl
  · exact of_im h0
  · exact of_im h1
  · exact of_im h2
  · exact of_im h3
  · exact of_im h4
  · exact of_im h5
  · exact of_im h6
def pe_f (en : Nat → Int32) (nd : Nat) (x0 x1 x2 x3 x4 x5 x6 : Int32) : Nat → Int32 := upd (upd (upd (upd (upd (upd (upd en (nd * 7) x0) (nd * 7 + 1 + 0) x1) (nd * 7 + 1 + 0 + 1) x2) (nd * 7 + 1 + 0 + 2) x3) (nd * 7 + 1 + 3) x4) (nd * 7 + 1 + 3 + 1) x5) (nd * 7 + 1 + 3 + 2) x6
theorem ca_A {s : State} {a : Array Value} (h : mx_Tr s) : (Cond.castable "java/lang/IllegalArgumentException" "java/lang/IllegalArgumentException").before a s = true := h.2.1 (Cond.castable "java/lang/IllegalArgumentException" "java/lang/IllegalArgumentException") (by decide)
theorem ca_B {s : State} {a : Array Value} (h : mx_Tr s) : (Cond.castable "java/lang/IndexOutOfBoundsException" "java/lang/IndexOutOfBoundsException").before a s = true := h.2.1 (Cond.castable "java/lang/IndexOutOfBoundsException" "java/lang/IndexOutOfBoundsException") (by decide)
theorem ca_C {s : State} {a : Array Value} (h : mx_Tr s) : (Cond.castable "java/lang/IllegalStateException" "java/lang/IllegalStateException").before a s = true := h.2.1 (Cond.castable "java/lang/IllegalStateException" "java/lang/IllegalStateException") (by decide)
theorem nc_AB {s : State} {a : Array Value} (h : mx_Tr s) : (Cond.not (.castable "java/lang/IllegalArgumentException" "java/lang/IndexOutOfBoundsException")).before a s = true := h.2.2.1 (Cond.not (.castable "java/lang/IllegalArgumentException" "java/lang/IndexOutOfBoundsException")) (by decide)
theorem nc_CA {s : State} {a : Array Value} (h : mx_Tr s) : (Cond.not (.castable "java/lang/IllegalStateException" "java/lang/IllegalArgumentException")).before a s = true := h.2.2.1 (Cond.not (.castable "java/lang/IllegalStateException" "java/lang/IllegalArgumentException")) (by decide)
theorem nc_CB {s : State} {a : Array Value} (h : mx_Tr s) : (Cond.not (.castable "java/lang/IllegalStateException" "java/lang/IndexOutOfBoundsException")).before a s = true := h.2.2.1 (Cond.not (.castable "java/lang/IllegalStateException" "java/lang/IndexOutOfBoundsException")) (by decide)
def tL_ok (P : Prop) (r : Int64) : Prop := (P → r = 1) ∧ (¬ P → r = 0)
theorem tL_1 {P : Prop} {r : Int32} (p : tl_ok P r) (h : ¬ r = 0) {ov : Nat → Int64} : tL_ok P (vp_updL ov 0 1 0) := by
  have : vp_updL ov 0 1 0 = 1 := by simp [vp_updL]
  rw [this]; exact ⟨fun _ => rfl, fun q => absurd (tl_1 p h) q⟩
theorem tL_0 {P : Prop} {r : Int32} (p : tl_ok P r) (h : r = 0) {ov : Nat → Int64} : tL_ok P (vp_updL ov 0 0 0) := by
  have : vp_updL ov 0 0 0 = 0 := by simp [vp_updL]
  rw [this]; exact ⟨fun q => absurd q (tl_0 p h), fun _ => rfl⟩
