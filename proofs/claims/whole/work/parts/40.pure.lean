/-! END rows, as pure functions -/
def en_e (num : Nat → Int32) (fr : Nat) (w : Int64) (co : Int32) (col : Nat → Int32) : Nat → Int64
  | 0 => w * co.toInt64
  | i + 1 => en_e num fr w co col i + (num (fr + 1 + i)).toInt64 * (col i).toInt64
def en_b (num : Nat → Int32) (fr : Nat) (bd : Nat → Int32) : Nat → Int64
  | 0 => 0
  | i + 1 => en_b num fr bd i + (num (fr + 1 + i)).toInt64 * (bd i).toInt64
def er_part (R1 R0 : Nat → Int64) (ro : Nat) (num : Nat → Int32) (fr : Nat) (co : Nat → Int32) (M : Nat → Nat → Int32) (k j : Nat) : Prop :=
  R1 ro = (num fr).toInt64 ∧ (∀ j9, j9 < j → R1 (ro + 1 + j9) = en_e num fr (num fr).toInt64 (co j9) (fun i9 => M i9 j9) k) ∧ ∀ t9, (t9 < ro ∨ ro + 6 ≤ t9) → R1 t9 = R0 t9
/-- the row at ro is the END of the numbers at fr -/
def er_ok (R1 R0 : Nat → Int64) (ro : Nat) (num : Nat → Int32) (fr : Nat) (co : Nat → Int32) (M : Nat → Nat → Int32) (bd : Nat → Int32) (k : Nat) : Prop :=
  er_part R1 R0 ro num fr co M k 4 ∧ R1 (ro + 1 + 4) = en_b num fr bd k
theorem er_0 {R0 : Nat → Int64} {ro : Nat} {num : Nat → Int32} {fr : Nat} {co : Nat → Int32} {M : Nat → Nat → Int32} {k : Nat} : er_part (vp_updL R0 ro (num fr).toInt64) R0 ro num fr co M k 0 :=
  ⟨pk_uLs, fun _ h => absurd h (Nat.not_lt_zero _), fun t9 h => pk_uLn (by omega)⟩
theorem er_step {R1 R0 : Nat → Int64} {ro : Nat} {num : Nat → Int32} {fr : Nat} {co : Nat → Int32} {M : Nat → Nat → Int32} {k i j : Nat} (hik : i = k) (hj : j < 4) (hv : er_part R1 R0 ro num fr co M k j) :
    er_part (vp_updL R1 (ro + 1 + j) (en_e num fr (num fr).toInt64 (co j) (fun i9 => M i9 j) i)) R0 ro num fr co M k (j + 1) := by
  subst hik
  refine ⟨by rw [pk_uLn (by omega)]; exact hv.1, fun j9 h9 => ?_, fun t9 h9 => by rw [pk_uLn (by omega)]; exact hv.2.2 t9 h9⟩
  by_cases h : j9 = j
  · subst h; exact pk_uLs
  · rw [pk_uLn (by omega)]; exact hv.2.1 j9 (by omega)
theorem er_end {R1 R0 : Nat → Int64} {ro : Nat} {num : Nat → Int32} {fr : Nat} {co : Nat → Int32} {M : Nat → Nat → Int32} {bd : Nat → Int32} {k i j : Nat} (hik : i = k) (hj : j = 4) (hv : er_part R1 R0 ro num fr co M k j) :
    er_ok (vp_updL R1 (ro + 1 + 4) (en_b num fr bd i)) R0 ro num fr co M bd k := by
  subst hik; subst hj
  exact ⟨⟨by rw [pk_uLn (by omega)]; exact hv.1, fun j9 h9 => by rw [pk_uLn (by omega)]; exact hv.2.1 j9 h9, fun t9 h9 => by rw [pk_uLn (by omega)]; exact hv.2.2 t9 h9⟩, pk_uLs⟩
/-- s of the row at ro in a box -/
def ie_s (R : Nat → Int64) (ro : Nat) (bl bm : Nat → Int32) : Nat → Int64
  | 0 => -(R (ro + 1 + 4))
  | j + 1 => ie_s R ro bl bm j + R (ro + 1 + j) * (if R (ro + 1 + j) < 0 then bm j else bl j).toInt64
/-- the END of the row at ro is sound in the box for bp / bq -/
def ie_ok (R : Nat → Int64) (ro : Nat) (bl bm : Nat → Int32) (n : Nat) (bp bq : Int64) : Prop := if R ro = 0 then ¬ ie_s R ro bl bm n ≤ 0 else ¬ bq * ie_s R ro bl bm n < R ro * bp
theorem ie_a {R : Nat → Int64} {ro : Nat} {bl bm : Nat → Int32} {n j : Nat} {bp bq : Int64} (hj : j = n) (h0 : R ro = 0) (h : ¬ ie_s R ro bl bm j ≤ 0) : (ie_ok R ro bl bm n bp bq → (1 : Int32) = 1) ∧ (¬ ie_ok R ro bl bm n bp bq → (1 : Int32) = 0) := by
  subst hj; exact ⟨fun _ => rfl, fun q => absurd (by rw [ie_ok, if_pos h0]; exact h) q⟩
theorem ie_b {R : Nat → Int64} {ro : Nat} {bl bm : Nat → Int32} {n j : Nat} {bp bq : Int64} (hj : j = n) (h0 : R ro = 0) (h : ie_s R ro bl bm j ≤ 0) : (ie_ok R ro bl bm n bp bq → (0 : Int32) = 1) ∧ (¬ ie_ok R ro bl bm n bp bq → (0 : Int32) = 0) := by
  subst hj; exact ⟨fun q => absurd h (by rw [ie_ok, if_pos h0] at q; exact q), fun _ => rfl⟩
theorem ie_c {R : Nat → Int64} {ro : Nat} {bl bm : Nat → Int32} {n j : Nat} {bp bq : Int64} (hj : j = n) (h0 : ¬ R ro = 0) (h : ¬ bq * ie_s R ro bl bm j < R ro * bp) : (ie_ok R ro bl bm n bp bq → (1 : Int32) = 1) ∧ (¬ ie_ok R ro bl bm n bp bq → (1 : Int32) = 0) := by
  subst hj; exact ⟨fun _ => rfl, fun q => absurd (by rw [ie_ok, if_neg h0]; exact h) q⟩
theorem ie_d {R : Nat → Int64} {ro : Nat} {bl bm : Nat → Int32} {n j : Nat} {bp bq : Int64} (hj : j = n) (h0 : ¬ R ro = 0) (h : bq * ie_s R ro bl bm j < R ro * bp) : (ie_ok R ro bl bm n bp bq → (0 : Int32) = 1) ∧ (¬ ie_ok R ro bl bm n bp bq → (0 : Int32) = 0) := by
  subst hj; exact ⟨fun q => absurd h (by rw [ie_ok, if_neg h0] at q; exact q), fun _ => rfl⟩
def cp_ok (f1 f : Nat → Int32) (j : Nat) : Prop := ∀ j9, j9 < j → f1 j9 = f j9
theorem cp_0 {f1 f : Nat → Int32} : cp_ok f1 f 0 := fun _ h => absurd h (Nat.not_lt_zero _)
theorem cp_step {f1 f : Nat → Int32} {j : Nat} (h : cp_ok f1 f j) : cp_ok (upd f1 j (f j)) f (j + 1) := by
  intro j9 h9
  by_cases he : j9 = j
  · subst he; exact pk_us
  · rw [pk_un he]; exact h j9 (by omega)
