/-! the planner's search: nothing that comes before is left out -/
theorem lo_lex {n : Nat} {u v b : Nat → Int} {d db : Int} (hd : 0 < d) (hdb : 0 < db) (hp : ∀ i, i ≤ n → u i * d ≤ v i) (h : xl_ok n v d b db) : xl_ok n u 1 b db := by
  obtain ⟨t, ht, e, l⟩ := h
  have up : ∀ i, i ≤ n → u i * db * d ≤ v i * db := fun i hi => by
    have := Int.mul_le_mul_of_nonneg_right (hp i hi) (Int.le_of_lt hdb)
    rw [Int.mul_assoc, Int.mul_comm db, ← Int.mul_assoc]; exact this
  rcases xl_3 (n := n) (va := u) (vb := b) (da := 1) (db := db) with q | ⟨j, hj, e2, l2⟩ | q
  · exact q
  · exfalso
    rw [Int.mul_one] at l2
    have a1 : b j * d < u j * db * d := Int.mul_lt_mul_of_pos_right l2 hd
    have a2 := up j hj
    rcases Nat.lt_trichotomy j t with z | z | z
    · have := e j z; omega
    · subst z; omega
    · have e3 := e2 t z
      rw [Int.mul_one] at e3
      have a3 := up t ht
      rw [← e3] at a3
      omega
  · exfalso
    have e3 := q t ht
    rw [Int.mul_one] at e3
    have a3 := up t ht
    rw [e3] at a3
    omega
theorem bt_s1 : ∀ j, j < 4 → ∀ f, f < 2 ^ j → (f + 2 ^ j < 2 ^ (j + 1) ∧ ¬ (f + 2 ^ j) / 2 ^ j % 2 = 0 ∧ f / 2 ^ j % 2 = 0) ∧ ∀ i, i < j → (f + 2 ^ j) / 2 ^ i % 2 = f / 2 ^ i % 2 := by decide +kernel
theorem bq_1k : ∀ k, k ≤ 6 → ∀ v, v < 128 → (∀ t, t < (bl_f v).length → (bl_f v).getD t 0 < k) → v < 2 ^ k := by decide +kernel
/-- a corner whose free amounts have some room -/
def k2_ok (w : Nat → Prop) (lo hi : Nat → Int32) (M : Nat → Nat → Int32) (bd : Nat → Int32) (n k : Nat) (d : Int) (x : Nat → Int) (R C : List Nat) : Prop := (R.length = C.length ∧ R.length ≤ 4) ∧ ic_l n R ∧ ic_l k C ∧ (∀ t, t < R.length → ¬ w (R.getD t 0) ∧ (lo (R.getD t 0)).toInt < (hi (R.getD t 0)).toInt) ∧ ¬ dl_f (nn_f M) R C = 0 ∧
  (∀ t, t < C.length → sm_f (fun j => (M (C.getD t 0) j).toInt * x j) n = (bd (C.getD t 0)).toInt * d) ∧ ∀ j, j < n → j ∈ R ∨ ∃ v : Int, ((lo j).toInt ≤ v ∧ v ≤ (hi j).toInt) ∧ x j = v * d ∧ (¬ w j → v = (lo j).toInt ∨ v = (hi j).toInt)
def lk_f (lo hi co : Nat → Int32) (i : Nat) : Int := if (co i).toInt < 0 then (co i).toInt * (hi i).toInt else (co i).toInt * (lo i).toInt
def nl_f (lo hi co se : Nat → Int32) (j fr i : Nat) : Int := if i < j ∧ fr / 2 ^ i % 2 = 0 then (co i).toInt * (se i).toInt else lk_f lo hi co i
/-- what holds at a node of the search -/
def ni_ok (w : Nat → Prop) (lo hi co : Nat → Int32) (n : Nat) (j fr : Nat) (lc : Int32) (se : Nat → Int32) : Prop := j ≤ n ∧ fr < 2 ^ j ∧ (∀ i, i < j → ¬ fr / 2 ^ i % 2 = 0 → ¬ w i) ∧ (∀ i, i < j → fr / 2 ^ i % 2 = 0 → sv_ok w lo hi (se i) i) ∧ (∀ i, i < n → (j ≤ i ∨ ¬ fr / 2 ^ i % 2 = 0) → (se i).toInt = (lo i).toInt) ∧ lc.toInt = sm_f (nl_f lo hi co se j fr) n
section DF
variable {lo hi wh co bd : Nat → Int32} {M : Nat → Nat → Int32} {n k : Nat} {vals : Nat → Int32} {lz : Int32} {wd : Nat → Nat}
theorem lc_int (hq : pq_ok lo hi co M bd n k) {i : Nat} (hi' : i < n) : (lc_f lo hi co i).toInt = lk_f lo hi co i ∧ (lk_f lo hi co i).natAbs ≤ 180 := by
  have a := hq.2.2.1 i hi'
  have z0 : (0 : Int32).toInt = 0 := rfl
  unfold lc_f lk_f
  by_cases h : co i < 0
  · have h2 : (co i).toInt < 0 := by have := Int32.lt_iff_toInt_lt.mp h; omega
    rw [if_pos h, if_pos h2]
    have e := i3_mul (x := co i) (y := hi i) (a := 9) (b := 20) a.2 (by omega) (by decide)
    exact ⟨e, nb_m (a := 9) (b := 20) a.2 (by omega)⟩
  · have h2 : ¬ (co i).toInt < 0 := fun q => h (Int32.lt_iff_toInt_lt.mpr (by omega))
    rw [if_neg h, if_neg h2]
    have e := i3_mul (x := co i) (y := lo i) (a := 9) (b := 20) a.2 (by omega) (by decide)
    exact ⟨e, nb_m (a := 9) (b := 20) a.2 (by omega)⟩
/-- an amount costs at least its least cost -/
theorem lk_le {i : Nat} {x d : Int} (h : (lo i).toInt * d ≤ x ∧ x ≤ (hi i).toInt * d) : lk_f lo hi co i * d ≤ (co i).toInt * x := by
  unfold lk_f
  by_cases c : (co i).toInt < 0
  · rw [if_pos c, Int.mul_assoc]
    exact Int.mul_le_mul_of_nonpos_left (Int.le_of_lt c) h.2
  · rw [if_neg c, Int.mul_assoc]
    exact Int.mul_le_mul_of_nonneg_left h.1 (by omega)
theorem nl_b (hq : pq_ok lo hi co M bd n k) {w : Nat → Prop} {j fr : Nat} {lc : Int32} {se : Nat → Int32} (hN : ni_ok w lo hi co n j fr lc se) {i : Nat} (hi' : i < n) : (nl_f lo hi co se j fr i).natAbs ≤ 180 ∧ (se i).toInt.natAbs ≤ 20 := by
  have a := hq.2.2.1 i hi'
  have hs : (se i).toInt.natAbs ≤ 20 := by
    by_cases h : i < j ∧ fr / 2 ^ i % 2 = 0
    · have := (hN.2.2.2.1 i h.1 h.2).1; omega
    · have := hN.2.2.2.2.1 i hi' (by
        by_cases z : i < j
        · exact Or.inr (fun q => h ⟨z, q⟩)
        · exact Or.inl (by omega))
      omega
  refine ⟨?_, hs⟩
  unfold nl_f
  by_cases h : i < j ∧ fr / 2 ^ i % 2 = 0
  · rw [if_pos h]; exact nb_m (a := 9) (b := 20) a.2 hs
  · rw [if_neg h]; exact (lc_int hq hi').2
theorem sm_bb {f : Nat → Int} {K : Nat} : ∀ m, (∀ i, i < m → (f i).natAbs ≤ K) → (sm_f f m).natAbs ≤ m * K
  | 0, _ => by show (0 : Int).natAbs ≤ _; simp
  | m + 1, h => by
    have a := sm_bb m (fun i hi => h i (by omega))
    have b := h m (by omega)
    have hm2 : (m + 1) * K = m * K + K := Nat.succ_mul _ _
    show (sm_f f m + f m).natAbs ≤ _
    omega
/-- x / d lies below a node -/
def bn_ok (j fr : Nat) (se : Nat → Int32) (d : Int) (x : Nat → Int) (R : List Nat) : Prop := (∀ i, i < j → (i ∈ R ↔ ¬ fr / 2 ^ i % 2 = 0)) ∧ ∀ i, i < j → fr / 2 ^ i % 2 = 0 → x i = (se i).toInt * d
theorem bn_ge {j fr : Nat} {lc : Int32} {se : Nat → Int32} (hN : ni_ok (wk_ok wh lz) lo hi co n j fr lc se) {d : Int} {x : Nat → Int} {R : List Nat} (hB : bn_ok j fr se d x R) (hk : ki_ok lo hi M bd n k d x) {i : Nat} (hi' : i < n) : (se i).toInt * d ≤ x i ∧ (fr / 2 ^ i % 2 = 0 → i < j → x i = (se i).toInt * d) := by
  refine ⟨?_, fun h1 h2 => hB.2 i h2 h1⟩
  by_cases h : i < j ∧ fr / 2 ^ i % 2 = 0
  · exact Int.le_of_eq (hB.2 i h.1 h.2).symm
  · have e := hN.2.2.2.2.1 i hi' (by
      by_cases z : i < j
      · exact Or.inr (fun q => h ⟨z, q⟩)
      · exact Or.inl (by omega))
    rw [e]; exact (hk.1 i hi').1
end DF
