/-! corners: their definition, lists of increasing numbers, rows with a single one -/
theorem li_1 : ∀ a, a < 7 → bl_f (2 ^ a) = [a] ∧ 2 ^ a < 128 := by decide +kernel
theorem li_2 : ∀ a, a < 7 → ∀ b, b < 7 → a < b → bl_f (2 ^ a + 2 ^ b) = [a, b] ∧ 2 ^ a + 2 ^ b < 128 := by decide +kernel
theorem li_3 : ∀ a b c : Fin 7, a.1 < b.1 → b.1 < c.1 → bl_f (2 ^ a.1 + 2 ^ b.1 + 2 ^ c.1) = [a.1, b.1, c.1] ∧ 2 ^ a.1 + 2 ^ b.1 + 2 ^ c.1 < 128 := by decide +kernel
theorem li_4 : ∀ a b c d : Fin 7, a.1 < b.1 → b.1 < c.1 → c.1 < d.1 → bl_f (2 ^ a.1 + 2 ^ b.1 + 2 ^ c.1 + 2 ^ d.1) = [a.1, b.1, c.1, d.1] ∧ 2 ^ a.1 + 2 ^ b.1 + 2 ^ c.1 + 2 ^ d.1 < 128 := by decide +kernel
/-- strictly increasing, below m -/
def ic_l (m : Nat) (l : List Nat) : Prop := (∀ t, t + 1 < l.length → l.getD t 0 < l.getD (t + 1) 0) ∧ ∀ t, t < l.length → l.getD t 0 < m
theorem li_num {l : List Nat} (h : ic_l 7 l) (hl : l.length ≤ 4) : ∃ v, v < 128 ∧ bl_f v = l := by
  rcases l with _ | ⟨a, _ | ⟨b, _ | ⟨c, _ | ⟨d, _ | ⟨e, l⟩⟩⟩⟩⟩
  · exact ⟨0, by decide, by decide⟩
  · exact ⟨2 ^ a, (li_1 a (h.2 0 (by simp))).2, (li_1 a (h.2 0 (by simp))).1⟩
  · have := li_2 a (h.2 0 (by simp)) b (h.2 1 (by simp)) (h.1 0 (by simp))
    exact ⟨_, this.2, this.1⟩
  · have := li_3 ⟨a, h.2 0 (by simp)⟩ ⟨b, h.2 1 (by simp)⟩ ⟨c, h.2 2 (by simp)⟩ (h.1 0 (by simp)) (h.1 1 (by simp))
    exact ⟨_, this.2, this.1⟩
  · have := li_4 ⟨a, h.2 0 (by simp)⟩ ⟨b, h.2 1 (by simp)⟩ ⟨c, h.2 2 (by simp)⟩ ⟨d, h.2 3 (by simp)⟩ (h.1 0 (by simp)) (h.1 1 (by simp)) (h.1 2 (by simp))
    exact ⟨_, this.2, this.1⟩
  · simp at hl
theorem bl_i1 : ∀ v, v < 128 → ∀ t, t < (bl_f v).length - 1 → (bl_f v).getD t 0 < (bl_f v).getD (t + 1) 0 := by decide +kernel
theorem bl_i2 : ∀ v, v < 128 → ∀ t, t < (bl_f v).length → (bl_f v).getD t 0 < 7 := by decide +kernel
theorem bl_ic {v : Nat} (h : v < 128) : ic_l 7 (bl_f v) := ⟨fun t ht => bl_i1 v h t (by omega), bl_i2 v h⟩
theorem bl_mem (v i : Nat) : i ∈ bl_f v ↔ i < 7 ∧ v / 2 ^ i % 2 = 1 := by simp [bl_f]
/-- rows of which the first are units: what is left is the rest's determinant -/
def dr_f (rs s : Nat) (A : Nat → Nat → Int) (FC : List Nat) : Int := if s = 0 then 1 else xd_f s (fun b a => A (rs - s + b) (FC.getD a 0))
set_option maxHeartbeats 8000000 in
theorem ur_d1 {fc : Nat} (hf : fc < 2) {A : Nat → Nat → Int} (h : ∀ r, r < 1 - pc_n fc → ∀ c, c < 1 → A r c = if c = (bl_f (1 - fc)).getD r 0 then 1 else 0) : xd_f 1 A = dr_f 1 (pc_n fc) A (bl_f fc) ∨ xd_f 1 A = -(dr_f 1 (pc_n fc) A (bl_f fc)) := by
  rcases (show fc = 0 ∨ fc = 1 by omega) with rfl | rfl
  · have e1 : bl_f (1 - 0) = [0] := by decide +kernel
    have e2 : pc_n 0 = 0 := by decide +kernel
    have e3 : bl_f 0 = [] := by decide +kernel
    rw [e1, e2] at h
    rw [e2, e3]
    have a00 : A 0 0 = 1 := h 0 (by decide) 0 (by decide)
    left
    simp [dr_f, xd_f, ek_f, a00]
    try grind
  · have e1 : bl_f (1 - 1) = [] := by decide +kernel
    have e2 : pc_n 1 = 1 := by decide +kernel
    have e3 : bl_f 1 = [0] := by decide +kernel
    rw [e1, e2] at h
    rw [e2, e3]
    left
    simp [dr_f, xd_f, ek_f]
    try grind
set_option maxHeartbeats 8000000 in
theorem ur_d2 {fc : Nat} (hf : fc < 4) {A : Nat → Nat → Int} (h : ∀ r, r < 2 - pc_n fc → ∀ c, c < 2 → A r c = if c = (bl_f (3 - fc)).getD r 0 then 1 else 0) : xd_f 2 A = dr_f 2 (pc_n fc) A (bl_f fc) ∨ xd_f 2 A = -(dr_f 2 (pc_n fc) A (bl_f fc)) := by
  rcases (show fc = 0 ∨ fc = 1 ∨ fc = 2 ∨ fc = 3 by omega) with rfl | rfl | rfl | rfl
  · have e1 : bl_f (3 - 0) = [0, 1] := by decide +kernel
    have e2 : pc_n 0 = 0 := by decide +kernel
    have e3 : bl_f 0 = [] := by decide +kernel
    rw [e1, e2] at h
    rw [e2, e3]
    have a00 : A 0 0 = 1 := h 0 (by decide) 0 (by decide)
    have a01 : A 0 1 = 0 := h 0 (by decide) 1 (by decide)
    have a10 : A 1 0 = 0 := h 1 (by decide) 0 (by decide)
    have a11 : A 1 1 = 1 := h 1 (by decide) 1 (by decide)
    left
    simp [dr_f, xd_f, ek_f, e1_f, a00, a01, a10, a11]
    try grind
  · have e1 : bl_f (3 - 1) = [1] := by decide +kernel
    have e2 : pc_n 1 = 1 := by decide +kernel
    have e3 : bl_f 1 = [0] := by decide +kernel
    rw [e1, e2] at h
    rw [e2, e3]
    have a00 : A 0 0 = 0 := h 0 (by decide) 0 (by decide)
    have a01 : A 0 1 = 1 := h 0 (by decide) 1 (by decide)
    right
    simp [dr_f, xd_f, ek_f, e1_f, a00, a01]
    try grind
  · have e1 : bl_f (3 - 2) = [0] := by decide +kernel
    have e2 : pc_n 2 = 1 := by decide +kernel
    have e3 : bl_f 2 = [1] := by decide +kernel
    rw [e1, e2] at h
    rw [e2, e3]
    have a00 : A 0 0 = 1 := h 0 (by decide) 0 (by decide)
    have a01 : A 0 1 = 0 := h 0 (by decide) 1 (by decide)
    left
    simp [dr_f, xd_f, ek_f, e1_f, a00, a01]
    try grind
  · have e1 : bl_f (3 - 3) = [] := by decide +kernel
    have e2 : pc_n 3 = 2 := by decide +kernel
    have e3 : bl_f 3 = [0, 1] := by decide +kernel
    rw [e1, e2] at h
    rw [e2, e3]
    left
    simp [dr_f, xd_f, ek_f, e1_f]
    try grind
set_option maxHeartbeats 8000000 in
theorem ur_d3 {fc : Nat} (hf : fc < 8) {A : Nat → Nat → Int} (h : ∀ r, r < 3 - pc_n fc → ∀ c, c < 3 → A r c = if c = (bl_f (7 - fc)).getD r 0 then 1 else 0) : xd_f 3 A = dr_f 3 (pc_n fc) A (bl_f fc) ∨ xd_f 3 A = -(dr_f 3 (pc_n fc) A (bl_f fc)) := by
  rcases (show fc = 0 ∨ fc = 1 ∨ fc = 2 ∨ fc = 3 ∨ fc = 4 ∨ fc = 5 ∨ fc = 6 ∨ fc = 7 by omega) with rfl | rfl | rfl | rfl | rfl | rfl | rfl | rfl
  · have e1 : bl_f (7 - 0) = [0, 1, 2] := by decide +kernel
    have e2 : pc_n 0 = 0 := by decide +kernel
    have e3 : bl_f 0 = [] := by decide +kernel
    rw [e1, e2] at h
    rw [e2, e3]
    have a00 : A 0 0 = 1 := h 0 (by decide) 0 (by decide)
    have a01 : A 0 1 = 0 := h 0 (by decide) 1 (by decide)
    have a02 : A 0 2 = 0 := h 0 (by decide) 2 (by decide)
    have a10 : A 1 0 = 0 := h 1 (by decide) 0 (by decide)
    have a11 : A 1 1 = 1 := h 1 (by decide) 1 (by decide)
    have a12 : A 1 2 = 0 := h 1 (by decide) 2 (by decide)
    have a20 : A 2 0 = 0 := h 2 (by decide) 0 (by decide)
    have a21 : A 2 1 = 0 := h 2 (by decide) 1 (by decide)
    have a22 : A 2 2 = 1 := h 2 (by decide) 2 (by decide)
    left
    simp [dr_f, xd_f, ek_f, e2_f, a00, a01, a02, a10, a11, a12, a20, a21, a22]
    try grind
  · have e1 : bl_f (7 - 1) = [1, 2] := by decide +kernel
    have e2 : pc_n 1 = 1 := by decide +kernel
    have e3 : bl_f 1 = [0] := by decide +kernel
    rw [e1, e2] at h
    rw [e2, e3]
    have a00 : A 0 0 = 0 := h 0 (by decide) 0 (by decide)
    have a01 : A 0 1 = 1 := h 0 (by decide) 1 (by decide)
    have a02 : A 0 2 = 0 := h 0 (by decide) 2 (by decide)
    have a10 : A 1 0 = 0 := h 1 (by decide) 0 (by decide)
    have a11 : A 1 1 = 0 := h 1 (by decide) 1 (by decide)
    have a12 : A 1 2 = 1 := h 1 (by decide) 2 (by decide)
    left
    simp [dr_f, xd_f, ek_f, e2_f, a00, a01, a02, a10, a11, a12]
    try grind
  · have e1 : bl_f (7 - 2) = [0, 2] := by decide +kernel
    have e2 : pc_n 2 = 1 := by decide +kernel
    have e3 : bl_f 2 = [1] := by decide +kernel
    rw [e1, e2] at h
    rw [e2, e3]
    have a00 : A 0 0 = 1 := h 0 (by decide) 0 (by decide)
    have a01 : A 0 1 = 0 := h 0 (by decide) 1 (by decide)
    have a02 : A 0 2 = 0 := h 0 (by decide) 2 (by decide)
    have a10 : A 1 0 = 0 := h 1 (by decide) 0 (by decide)
    have a11 : A 1 1 = 0 := h 1 (by decide) 1 (by decide)
    have a12 : A 1 2 = 1 := h 1 (by decide) 2 (by decide)
    right
    simp [dr_f, xd_f, ek_f, e2_f, a00, a01, a02, a10, a11, a12]
    try grind
  · have e1 : bl_f (7 - 3) = [2] := by decide +kernel
    have e2 : pc_n 3 = 2 := by decide +kernel
    have e3 : bl_f 3 = [0, 1] := by decide +kernel
    rw [e1, e2] at h
    rw [e2, e3]
    have a00 : A 0 0 = 0 := h 0 (by decide) 0 (by decide)
    have a01 : A 0 1 = 0 := h 0 (by decide) 1 (by decide)
    have a02 : A 0 2 = 1 := h 0 (by decide) 2 (by decide)
    left
    simp [dr_f, xd_f, ek_f, e1_f, e2_f, a00, a01, a02]
    try grind
  · have e1 : bl_f (7 - 4) = [0, 1] := by decide +kernel
    have e2 : pc_n 4 = 1 := by decide +kernel
    have e3 : bl_f 4 = [2] := by decide +kernel
    rw [e1, e2] at h
    rw [e2, e3]
    have a00 : A 0 0 = 1 := h 0 (by decide) 0 (by decide)
    have a01 : A 0 1 = 0 := h 0 (by decide) 1 (by decide)
    have a02 : A 0 2 = 0 := h 0 (by decide) 2 (by decide)
    have a10 : A 1 0 = 0 := h 1 (by decide) 0 (by decide)
    have a11 : A 1 1 = 1 := h 1 (by decide) 1 (by decide)
    have a12 : A 1 2 = 0 := h 1 (by decide) 2 (by decide)
    left
    simp [dr_f, xd_f, ek_f, e2_f, a00, a01, a02, a10, a11, a12]
    try grind
  · have e1 : bl_f (7 - 5) = [1] := by decide +kernel
    have e2 : pc_n 5 = 2 := by decide +kernel
    have e3 : bl_f 5 = [0, 2] := by decide +kernel
    rw [e1, e2] at h
    rw [e2, e3]
    have a00 : A 0 0 = 0 := h 0 (by decide) 0 (by decide)
    have a01 : A 0 1 = 1 := h 0 (by decide) 1 (by decide)
    have a02 : A 0 2 = 0 := h 0 (by decide) 2 (by decide)
    right
    simp [dr_f, xd_f, ek_f, e1_f, e2_f, a00, a01, a02]
    try grind
  · have e1 : bl_f (7 - 6) = [0] := by decide +kernel
    have e2 : pc_n 6 = 2 := by decide +kernel
    have e3 : bl_f 6 = [1, 2] := by decide +kernel
    rw [e1, e2] at h
    rw [e2, e3]
    have a00 : A 0 0 = 1 := h 0 (by decide) 0 (by decide)
    have a01 : A 0 1 = 0 := h 0 (by decide) 1 (by decide)
    have a02 : A 0 2 = 0 := h 0 (by decide) 2 (by decide)
    left
    simp [dr_f, xd_f, ek_f, e1_f, e2_f, a00, a01, a02]
    try grind
  · have e1 : bl_f (7 - 7) = [] := by decide +kernel
    have e2 : pc_n 7 = 3 := by decide +kernel
    have e3 : bl_f 7 = [0, 1, 2] := by decide +kernel
    rw [e1, e2] at h
    rw [e2, e3]
    left
    simp [dr_f, xd_f, ek_f, e2_f]
    try grind
set_option maxHeartbeats 8000000 in
theorem ur_d4 {fc : Nat} (hf : fc < 16) {A : Nat → Nat → Int} (h : ∀ r, r < 4 - pc_n fc → ∀ c, c < 4 → A r c = if c = (bl_f (15 - fc)).getD r 0 then 1 else 0) : xd_f 4 A = dr_f 4 (pc_n fc) A (bl_f fc) ∨ xd_f 4 A = -(dr_f 4 (pc_n fc) A (bl_f fc)) := by
  rcases (show fc = 0 ∨ fc = 1 ∨ fc = 2 ∨ fc = 3 ∨ fc = 4 ∨ fc = 5 ∨ fc = 6 ∨ fc = 7 ∨ fc = 8 ∨ fc = 9 ∨ fc = 10 ∨ fc = 11 ∨ fc = 12 ∨ fc = 13 ∨ fc = 14 ∨ fc = 15 by omega) with rfl | rfl | rfl | rfl | rfl | rfl | rfl | rfl | rfl | rfl | rfl | rfl | rfl | rfl | rfl | rfl
  · have e1 : bl_f (15 - 0) = [0, 1, 2, 3] := by decide +kernel
    have e2 : pc_n 0 = 0 := by decide +kernel
    have e3 : bl_f 0 = [] := by decide +kernel
    rw [e1, e2] at h
    rw [e2, e3]
    have a00 : A 0 0 = 1 := h 0 (by decide) 0 (by decide)
    have a01 : A 0 1 = 0 := h 0 (by decide) 1 (by decide)
    have a02 : A 0 2 = 0 := h 0 (by decide) 2 (by decide)
    have a03 : A 0 3 = 0 := h 0 (by decide) 3 (by decide)
    have a10 : A 1 0 = 0 := h 1 (by decide) 0 (by decide)
    have a11 : A 1 1 = 1 := h 1 (by decide) 1 (by decide)
    have a12 : A 1 2 = 0 := h 1 (by decide) 2 (by decide)
    have a13 : A 1 3 = 0 := h 1 (by decide) 3 (by decide)
    have a20 : A 2 0 = 0 := h 2 (by decide) 0 (by decide)
    have a21 : A 2 1 = 0 := h 2 (by decide) 1 (by decide)
    have a22 : A 2 2 = 1 := h 2 (by decide) 2 (by decide)
    have a23 : A 2 3 = 0 := h 2 (by decide) 3 (by decide)
    have a30 : A 3 0 = 0 := h 3 (by decide) 0 (by decide)
    have a31 : A 3 1 = 0 := h 3 (by decide) 1 (by decide)
    have a32 : A 3 2 = 0 := h 3 (by decide) 2 (by decide)
    have a33 : A 3 3 = 1 := h 3 (by decide) 3 (by decide)
    left
    simp [dr_f, xd_f, ek_f, e3_f, a00, a01, a02, a03, a10, a11, a12, a13, a20, a21, a22, a23, a30, a31, a32, a33]
    try grind
  · have e1 : bl_f (15 - 1) = [1, 2, 3] := by decide +kernel
    have e2 : pc_n 1 = 1 := by decide +kernel
    have e3 : bl_f 1 = [0] := by decide +kernel
    rw [e1, e2] at h
    rw [e2, e3]
    have a00 : A 0 0 = 0 := h 0 (by decide) 0 (by decide)
    have a01 : A 0 1 = 1 := h 0 (by decide) 1 (by decide)
    have a02 : A 0 2 = 0 := h 0 (by decide) 2 (by decide)
    have a03 : A 0 3 = 0 := h 0 (by decide) 3 (by decide)
    have a10 : A 1 0 = 0 := h 1 (by decide) 0 (by decide)
    have a11 : A 1 1 = 0 := h 1 (by decide) 1 (by decide)
    have a12 : A 1 2 = 1 := h 1 (by decide) 2 (by decide)
    have a13 : A 1 3 = 0 := h 1 (by decide) 3 (by decide)
    have a20 : A 2 0 = 0 := h 2 (by decide) 0 (by decide)
    have a21 : A 2 1 = 0 := h 2 (by decide) 1 (by decide)
    have a22 : A 2 2 = 0 := h 2 (by decide) 2 (by decide)
    have a23 : A 2 3 = 1 := h 2 (by decide) 3 (by decide)
    right
    simp [dr_f, xd_f, ek_f, e3_f, a00, a01, a02, a03, a10, a11, a12, a13, a20, a21, a22, a23]
    try grind
  · have e1 : bl_f (15 - 2) = [0, 2, 3] := by decide +kernel
    have e2 : pc_n 2 = 1 := by decide +kernel
    have e3 : bl_f 2 = [1] := by decide +kernel
    rw [e1, e2] at h
    rw [e2, e3]
    have a00 : A 0 0 = 1 := h 0 (by decide) 0 (by decide)
    have a01 : A 0 1 = 0 := h 0 (by decide) 1 (by decide)
    have a02 : A 0 2 = 0 := h 0 (by decide) 2 (by decide)
    have a03 : A 0 3 = 0 := h 0 (by decide) 3 (by decide)
    have a10 : A 1 0 = 0 := h 1 (by decide) 0 (by decide)
    have a11 : A 1 1 = 0 := h 1 (by decide) 1 (by decide)
    have a12 : A 1 2 = 1 := h 1 (by decide) 2 (by decide)
    have a13 : A 1 3 = 0 := h 1 (by decide) 3 (by decide)
    have a20 : A 2 0 = 0 := h 2 (by decide) 0 (by decide)
    have a21 : A 2 1 = 0 := h 2 (by decide) 1 (by decide)
    have a22 : A 2 2 = 0 := h 2 (by decide) 2 (by decide)
    have a23 : A 2 3 = 1 := h 2 (by decide) 3 (by decide)
    left
    simp [dr_f, xd_f, ek_f, e3_f, a00, a01, a02, a03, a10, a11, a12, a13, a20, a21, a22, a23]
    try grind
  · have e1 : bl_f (15 - 3) = [2, 3] := by decide +kernel
    have e2 : pc_n 3 = 2 := by decide +kernel
    have e3 : bl_f 3 = [0, 1] := by decide +kernel
    rw [e1, e2] at h
    rw [e2, e3]
    have a00 : A 0 0 = 0 := h 0 (by decide) 0 (by decide)
    have a01 : A 0 1 = 0 := h 0 (by decide) 1 (by decide)
    have a02 : A 0 2 = 1 := h 0 (by decide) 2 (by decide)
    have a03 : A 0 3 = 0 := h 0 (by decide) 3 (by decide)
    have a10 : A 1 0 = 0 := h 1 (by decide) 0 (by decide)
    have a11 : A 1 1 = 0 := h 1 (by decide) 1 (by decide)
    have a12 : A 1 2 = 0 := h 1 (by decide) 2 (by decide)
    have a13 : A 1 3 = 1 := h 1 (by decide) 3 (by decide)
    left
    simp [dr_f, xd_f, ek_f, e1_f, e3_f, a00, a01, a02, a03, a10, a11, a12, a13]
    try grind
  · have e1 : bl_f (15 - 4) = [0, 1, 3] := by decide +kernel
    have e2 : pc_n 4 = 1 := by decide +kernel
    have e3 : bl_f 4 = [2] := by decide +kernel
    rw [e1, e2] at h
    rw [e2, e3]
    have a00 : A 0 0 = 1 := h 0 (by decide) 0 (by decide)
    have a01 : A 0 1 = 0 := h 0 (by decide) 1 (by decide)
    have a02 : A 0 2 = 0 := h 0 (by decide) 2 (by decide)
    have a03 : A 0 3 = 0 := h 0 (by decide) 3 (by decide)
    have a10 : A 1 0 = 0 := h 1 (by decide) 0 (by decide)
    have a11 : A 1 1 = 1 := h 1 (by decide) 1 (by decide)
    have a12 : A 1 2 = 0 := h 1 (by decide) 2 (by decide)
    have a13 : A 1 3 = 0 := h 1 (by decide) 3 (by decide)
    have a20 : A 2 0 = 0 := h 2 (by decide) 0 (by decide)
    have a21 : A 2 1 = 0 := h 2 (by decide) 1 (by decide)
    have a22 : A 2 2 = 0 := h 2 (by decide) 2 (by decide)
    have a23 : A 2 3 = 1 := h 2 (by decide) 3 (by decide)
    right
    simp [dr_f, xd_f, ek_f, e3_f, a00, a01, a02, a03, a10, a11, a12, a13, a20, a21, a22, a23]
    try grind
  · have e1 : bl_f (15 - 5) = [1, 3] := by decide +kernel
    have e2 : pc_n 5 = 2 := by decide +kernel
    have e3 : bl_f 5 = [0, 2] := by decide +kernel
    rw [e1, e2] at h
    rw [e2, e3]
    have a00 : A 0 0 = 0 := h 0 (by decide) 0 (by decide)
    have a01 : A 0 1 = 1 := h 0 (by decide) 1 (by decide)
    have a02 : A 0 2 = 0 := h 0 (by decide) 2 (by decide)
    have a03 : A 0 3 = 0 := h 0 (by decide) 3 (by decide)
    have a10 : A 1 0 = 0 := h 1 (by decide) 0 (by decide)
    have a11 : A 1 1 = 0 := h 1 (by decide) 1 (by decide)
    have a12 : A 1 2 = 0 := h 1 (by decide) 2 (by decide)
    have a13 : A 1 3 = 1 := h 1 (by decide) 3 (by decide)
    right
    simp [dr_f, xd_f, ek_f, e1_f, e3_f, a00, a01, a02, a03, a10, a11, a12, a13]
    try grind
  · have e1 : bl_f (15 - 6) = [0, 3] := by decide +kernel
    have e2 : pc_n 6 = 2 := by decide +kernel
    have e3 : bl_f 6 = [1, 2] := by decide +kernel
    rw [e1, e2] at h
    rw [e2, e3]
    have a00 : A 0 0 = 1 := h 0 (by decide) 0 (by decide)
    have a01 : A 0 1 = 0 := h 0 (by decide) 1 (by decide)
    have a02 : A 0 2 = 0 := h 0 (by decide) 2 (by decide)
    have a03 : A 0 3 = 0 := h 0 (by decide) 3 (by decide)
    have a10 : A 1 0 = 0 := h 1 (by decide) 0 (by decide)
    have a11 : A 1 1 = 0 := h 1 (by decide) 1 (by decide)
    have a12 : A 1 2 = 0 := h 1 (by decide) 2 (by decide)
    have a13 : A 1 3 = 1 := h 1 (by decide) 3 (by decide)
    left
    simp [dr_f, xd_f, ek_f, e1_f, e3_f, a00, a01, a02, a03, a10, a11, a12, a13]
    try grind
  · have e1 : bl_f (15 - 7) = [3] := by decide +kernel
    have e2 : pc_n 7 = 3 := by decide +kernel
    have e3 : bl_f 7 = [0, 1, 2] := by decide +kernel
    rw [e1, e2] at h
    rw [e2, e3]
    have a00 : A 0 0 = 0 := h 0 (by decide) 0 (by decide)
    have a01 : A 0 1 = 0 := h 0 (by decide) 1 (by decide)
    have a02 : A 0 2 = 0 := h 0 (by decide) 2 (by decide)
    have a03 : A 0 3 = 1 := h 0 (by decide) 3 (by decide)
    right
    simp [dr_f, xd_f, ek_f, e2_f, e3_f, a00, a01, a02, a03]
    try grind
  · have e1 : bl_f (15 - 8) = [0, 1, 2] := by decide +kernel
    have e2 : pc_n 8 = 1 := by decide +kernel
    have e3 : bl_f 8 = [3] := by decide +kernel
    rw [e1, e2] at h
    rw [e2, e3]
    have a00 : A 0 0 = 1 := h 0 (by decide) 0 (by decide)
    have a01 : A 0 1 = 0 := h 0 (by decide) 1 (by decide)
    have a02 : A 0 2 = 0 := h 0 (by decide) 2 (by decide)
    have a03 : A 0 3 = 0 := h 0 (by decide) 3 (by decide)
    have a10 : A 1 0 = 0 := h 1 (by decide) 0 (by decide)
    have a11 : A 1 1 = 1 := h 1 (by decide) 1 (by decide)
    have a12 : A 1 2 = 0 := h 1 (by decide) 2 (by decide)
    have a13 : A 1 3 = 0 := h 1 (by decide) 3 (by decide)
    have a20 : A 2 0 = 0 := h 2 (by decide) 0 (by decide)
    have a21 : A 2 1 = 0 := h 2 (by decide) 1 (by decide)
    have a22 : A 2 2 = 1 := h 2 (by decide) 2 (by decide)
    have a23 : A 2 3 = 0 := h 2 (by decide) 3 (by decide)
    left
    simp [dr_f, xd_f, ek_f, e3_f, a00, a01, a02, a03, a10, a11, a12, a13, a20, a21, a22, a23]
    try grind
  · have e1 : bl_f (15 - 9) = [1, 2] := by decide +kernel
    have e2 : pc_n 9 = 2 := by decide +kernel
    have e3 : bl_f 9 = [0, 3] := by decide +kernel
    rw [e1, e2] at h
    rw [e2, e3]
    have a00 : A 0 0 = 0 := h 0 (by decide) 0 (by decide)
    have a01 : A 0 1 = 1 := h 0 (by decide) 1 (by decide)
    have a02 : A 0 2 = 0 := h 0 (by decide) 2 (by decide)
    have a03 : A 0 3 = 0 := h 0 (by decide) 3 (by decide)
    have a10 : A 1 0 = 0 := h 1 (by decide) 0 (by decide)
    have a11 : A 1 1 = 0 := h 1 (by decide) 1 (by decide)
    have a12 : A 1 2 = 1 := h 1 (by decide) 2 (by decide)
    have a13 : A 1 3 = 0 := h 1 (by decide) 3 (by decide)
    left
    simp [dr_f, xd_f, ek_f, e1_f, e3_f, a00, a01, a02, a03, a10, a11, a12, a13]
    try grind
  · have e1 : bl_f (15 - 10) = [0, 2] := by decide +kernel
    have e2 : pc_n 10 = 2 := by decide +kernel
    have e3 : bl_f 10 = [1, 3] := by decide +kernel
    rw [e1, e2] at h
    rw [e2, e3]
    have a00 : A 0 0 = 1 := h 0 (by decide) 0 (by decide)
    have a01 : A 0 1 = 0 := h 0 (by decide) 1 (by decide)
    have a02 : A 0 2 = 0 := h 0 (by decide) 2 (by decide)
    have a03 : A 0 3 = 0 := h 0 (by decide) 3 (by decide)
    have a10 : A 1 0 = 0 := h 1 (by decide) 0 (by decide)
    have a11 : A 1 1 = 0 := h 1 (by decide) 1 (by decide)
    have a12 : A 1 2 = 1 := h 1 (by decide) 2 (by decide)
    have a13 : A 1 3 = 0 := h 1 (by decide) 3 (by decide)
    right
    simp [dr_f, xd_f, ek_f, e1_f, e3_f, a00, a01, a02, a03, a10, a11, a12, a13]
    try grind
  · have e1 : bl_f (15 - 11) = [2] := by decide +kernel
    have e2 : pc_n 11 = 3 := by decide +kernel
    have e3 : bl_f 11 = [0, 1, 3] := by decide +kernel
    rw [e1, e2] at h
    rw [e2, e3]
    have a00 : A 0 0 = 0 := h 0 (by decide) 0 (by decide)
    have a01 : A 0 1 = 0 := h 0 (by decide) 1 (by decide)
    have a02 : A 0 2 = 1 := h 0 (by decide) 2 (by decide)
    have a03 : A 0 3 = 0 := h 0 (by decide) 3 (by decide)
    left
    simp [dr_f, xd_f, ek_f, e2_f, e3_f, a00, a01, a02, a03]
    try grind
  · have e1 : bl_f (15 - 12) = [0, 1] := by decide +kernel
    have e2 : pc_n 12 = 2 := by decide +kernel
    have e3 : bl_f 12 = [2, 3] := by decide +kernel
    rw [e1, e2] at h
    rw [e2, e3]
    have a00 : A 0 0 = 1 := h 0 (by decide) 0 (by decide)
    have a01 : A 0 1 = 0 := h 0 (by decide) 1 (by decide)
    have a02 : A 0 2 = 0 := h 0 (by decide) 2 (by decide)
    have a03 : A 0 3 = 0 := h 0 (by decide) 3 (by decide)
    have a10 : A 1 0 = 0 := h 1 (by decide) 0 (by decide)
    have a11 : A 1 1 = 1 := h 1 (by decide) 1 (by decide)
    have a12 : A 1 2 = 0 := h 1 (by decide) 2 (by decide)
    have a13 : A 1 3 = 0 := h 1 (by decide) 3 (by decide)
    left
    simp [dr_f, xd_f, ek_f, e1_f, e3_f, a00, a01, a02, a03, a10, a11, a12, a13]
    try grind
  · have e1 : bl_f (15 - 13) = [1] := by decide +kernel
    have e2 : pc_n 13 = 3 := by decide +kernel
    have e3 : bl_f 13 = [0, 2, 3] := by decide +kernel
    rw [e1, e2] at h
    rw [e2, e3]
    have a00 : A 0 0 = 0 := h 0 (by decide) 0 (by decide)
    have a01 : A 0 1 = 1 := h 0 (by decide) 1 (by decide)
    have a02 : A 0 2 = 0 := h 0 (by decide) 2 (by decide)
    have a03 : A 0 3 = 0 := h 0 (by decide) 3 (by decide)
    right
    simp [dr_f, xd_f, ek_f, e2_f, e3_f, a00, a01, a02, a03]
    try grind
  · have e1 : bl_f (15 - 14) = [0] := by decide +kernel
    have e2 : pc_n 14 = 3 := by decide +kernel
    have e3 : bl_f 14 = [1, 2, 3] := by decide +kernel
    rw [e1, e2] at h
    rw [e2, e3]
    have a00 : A 0 0 = 1 := h 0 (by decide) 0 (by decide)
    have a01 : A 0 1 = 0 := h 0 (by decide) 1 (by decide)
    have a02 : A 0 2 = 0 := h 0 (by decide) 2 (by decide)
    have a03 : A 0 3 = 0 := h 0 (by decide) 3 (by decide)
    left
    simp [dr_f, xd_f, ek_f, e2_f, e3_f, a00, a01, a02, a03]
    try grind
  · have e1 : bl_f (15 - 15) = [] := by decide +kernel
    have e2 : pc_n 15 = 4 := by decide +kernel
    have e3 : bl_f 15 = [0, 1, 2, 3] := by decide +kernel
    rw [e1, e2] at h
    rw [e2, e3]
    left
    simp [dr_f, xd_f, ek_f, e3_f]
    try grind
theorem ur_det {rs fc : Nat} (hrs : 1 ≤ rs ∧ rs ≤ 4) (hf : fc < 2 ^ rs) {A : Nat → Nat → Int} (h : ∀ r, r < rs - pc_n fc → ∀ c, c < rs → A r c = if c = (bl_f (2 ^ rs - 1 - fc)).getD r 0 then 1 else 0) : xd_f rs A = dr_f rs (pc_n fc) A (bl_f fc) ∨ xd_f rs A = -(dr_f rs (pc_n fc) A (bl_f fc)) := by
  rcases (show rs = 1 ∨ rs = 2 ∨ rs = 3 ∨ rs = 4 by omega) with rfl | rfl | rfl | rfl
  · exact ur_d1 hf h
  · exact ur_d2 hf h
  · exact ur_d3 hf h
  · exact ur_d4 hf h
theorem xd_row {rs a b : Nat} (hrs : rs ≤ 4) (h1 : a < b) (h2 : b < rs) {A : Nat → Nat → Int} (h : ∀ c, A a c = A b c) : xd_f rs A = 0 := by
  have e : zs_f A b a = A := by
    funext r c
    unfold zs_f
    by_cases z1 : r = b
    · rw [if_pos z1, z1]; exact h c
    · rw [if_neg z1]
      by_cases z2 : r = a
      · rw [if_pos z2, z2]; exact (h c).symm
      · rw [if_neg z2]
  have := xd_zs (A := A) hrs h1 h2
  rw [e] at this
  omega
