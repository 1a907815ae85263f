/-! the reference keeps the first of the corners that are plans -/
def bI (f : Nat → Int64) : Nat → Int := fun j => (f j).toInt
def cI_f (co : Nat → Int32) : Nat → Int := fun j => (co j).toInt
theorem vq_cg {co x y : Nat → Int} {n : Nat} (h : ∀ j, j < n → x j = y j) : ∀ i, i ≤ n → vq_f co n x i = vq_f co n y i := by
  intro i hi
  unfold vq_f
  by_cases e : i = 0
  · rw [if_pos e, if_pos e]; exact sm_cg n (fun j hj => by rw [h j hj])
  · rw [if_neg e, if_neg e]; exact h _ (by omega)
theorem xl_cg2 {n : Nat} {va vb ua ub : Nat → Int} {da db : Int} (h1 : ∀ i, i ≤ n → va i = ua i) (h2 : ∀ i, i ≤ n → vb i = ub i) (h : xl_ok n va da vb db) : xl_ok n ua da ub db := by
  obtain ⟨j, hj, e, l⟩ := h
  exact ⟨j, hj, fun i hi => by rw [← h1 i (by omega), ← h2 i (by omega)]; exact e i hi, by rw [← h1 j hj, ← h2 j hj]; exact l⟩
theorem ki_cg {lo hi : Nat → Int32} {M : Nat → Nat → Int32} {bd : Nat → Int32} {n k : Nat} {d : Int} {x y : Nat → Int} (h : ∀ j, j < n → x j = y j) (hx : ki_ok lo hi M bd n k d x) : ki_ok lo hi M bd n k d y :=
  ⟨fun j hj => by rw [← h j hj]; exact hx.1 j hj, fun i hi => by rw [← sm_cg (f := fun j => (M i j).toInt * x j) n (fun j hj => by rw [h j hj])]; exact hx.2 i hi⟩
theorem kn_cg {w : Nat → Prop} {lo hi : Nat → Int32} {M : Nat → Nat → Int32} {bd : Nat → Int32} {n k : Nat} {d : Int} {x y : Nat → Int} (h : ∀ j, j < n → x j = y j) (hx : kn_ok w lo hi M bd n k d x) : kn_ok w lo hi M bd n k d y := by
  obtain ⟨R, C, a, b, c, e, f, g, i⟩ := hx
  exact ⟨R, C, a, b, c, e, f, fun t ht => by rw [← g t ht]; exact sm_cg n (fun j hj => by rw [h j hj]), fun j hj => by rw [← h j hj]; exact i j hj⟩
section MI
variable {w : Nat → Prop} {lo hi wt bd co : Nat → Int32} {n k : Nat}
theorem mw_int {c : Nat → Int32} {x : Nat → Int64} {K : Nat} (hK : K ≤ 30000000000000) : ∀ m, m ≤ 4 → (∀ j, j < m → (c j).toInt.natAbs ≤ 9 ∧ (x j).toInt.natAbs ≤ K) → (mw_sum c x m).toInt = sm_f (fun j => (c j).toInt * (x j).toInt) m ∧ (mw_sum c x m).toInt.natAbs ≤ m * (9 * K)
  | 0, _, _ => ⟨rfl, by show (0 : Int64).toInt.natAbs ≤ _; rw [show (0 : Int64).toInt = 0 from rfl]; omega⟩
  | m + 1, hm, h => by
    obtain ⟨e1, e2⟩ := mw_int hK m (by omega) (fun j hj => h j (by omega))
    obtain ⟨a, b⟩ := h m (by omega)
    have p : ((c m).toInt64 * x m).toInt = (c m).toInt * (x m).toInt := by
      rw [i6_mul (a := 9) (b := K) (by rw [Int32.toInt_toInt64]; exact a) b (by omega), Int32.toInt_toInt64]
    have pb := nb_m a b
    have hm2 : (m + 1) * (9 * K) = m * (9 * K) + 9 * K := Nat.succ_mul _ _
    have hm3 : m * (9 * K) ≤ 3 * (9 * K) := Nat.mul_le_mul_right _ (by omega)
    have q : (mw_sum c x (m + 1)).toInt = (mw_sum c x m).toInt + (c m).toInt * (x m).toInt := by
      show (mw_sum c x m + (c m).toInt64 * x m).toInt = _
      rw [i6_add (by rw [p]; omega), p]
    rw [q]
    exact ⟨by rw [e1]; rfl, by omega⟩
theorem mp_int (hq : pq_ok lo hi co (fun i j => wt (4 * i + j)) bd n k) {be : Int64} {tr : Nat → Int64} (hb : 0 < be.toInt ∧ be.toInt ≤ 162009) (ht : ∀ j, j < n → (tr j).toInt.natAbs ≤ 30000000000000) : mp_ok lo hi wt bd tr be n k ↔ ki_ok lo hi (fun i j => wt (4 * i + j)) bd n k be.toInt (bI tr) := by
  have hm : ∀ v : Int32, v.toInt.natAbs ≤ 99 → (v.toInt64 * be).toInt = v.toInt * be.toInt := fun v hv => by
    rw [i6_mul (a := 99) (b := 162009) (by rw [Int32.toInt_toInt64]; exact hv) (by omega) (by decide), Int32.toInt_toInt64]
  unfold mp_ok ki_ok
  refine and_congr ?_ ?_
  · unfold mp_b
    refine forall_congr' fun j => forall_congr' fun hj => ?_
    have a := (hq.2.2.1 j hj).1
    rw [Int64.le_iff_toInt_le, Int64.le_iff_toInt_le, hm _ (by omega), hm _ (by omega)]
    exact Iff.rfl
  · unfold mp_l
    refine forall_congr' fun i => forall_congr' fun hi => ?_
    have b := hq.2.2.2 i hi
    rw [Int64.le_iff_toInt_le, hm _ b.2, (mw_int (c := fun j => wt (4 * i + j)) (Nat.le_refl _) n hq.1.2 (fun j hj => ⟨b.1 j hj, ht j hj⟩)).1]
    exact Iff.rfl
theorem ki_b (hq : pq_ok lo hi co (fun i j => wt (4 * i + j)) bd n k) {d : Int} {x : Nat → Int} (hd : 0 < d ∧ d ≤ 162009) (h : ki_ok lo hi (fun i j => wt (4 * i + j)) bd n k d x) {j : Nat} (hj : j < n) : (x j).natAbs ≤ 3240180 := by
  have a := (hq.2.2.1 j hj).1
  have b := h.1 j hj
  have l1 : -20 * d ≤ (lo j).toInt * d := Int.mul_le_mul_of_nonneg_right a.1 (by omega)
  have l2 : (hi j).toInt * d ≤ 20 * d := Int.mul_le_mul_of_nonneg_right a.2.2 (by omega)
  omega
/-- the comparison of a corner with what was found -/
theorem tb_int {s : mt_T} {tr : Nat → Int64} {be cs : Int64} (hf : ¬ s.1 = 0) (hn : n ≤ 4) (hcs : cs.toInt = sm_f (fun j => (co j).toInt * (tr j).toInt) n) (hbc : s.2.2.2.toInt = sm_f (fun j => (co j).toInt * (s.2.1 j).toInt) n) (b1 : cs.toInt.natAbs ≤ 200000000) (b2 : s.2.2.2.toInt.natAbs ≤ 200000000) (hb : 0 < be.toInt ∧ be.toInt ≤ 162009) (hs : 0 < s.2.2.1.toInt ∧ s.2.2.1.toInt ≤ 162009)
    (ht : ∀ j, j < n → (tr j).toInt.natAbs ≤ 3240180) (hst : ∀ j, j < n → (s.2.1 j).toInt.natAbs ≤ 3240180) : ¬ tb_f tr be cs n s = 0 ↔ xl_ok n (vq_f (cI_f co) n (bI tr)) be.toInt (vq_f (cI_f co) n (bI s.2.1)) s.2.2.1.toInt := by
  have v0 : vq_f (cI_f co) n (bI tr) 0 = cs.toInt := by rw [hcs]; rfl
  have u0 : vq_f (cI_f co) n (bI s.2.1) 0 = s.2.2.2.toInt := by rw [hbc]; rfl
  have vj : ∀ j, vq_f (cI_f co) n (bI tr) (j + 1) = (tr j).toInt := fun j => rfl
  have uj : ∀ j, vq_f (cI_f co) n (bI s.2.1) (j + 1) = (s.2.1 j).toInt := fun j => rfl
  generalize vq_f (cI_f co) n (bI tr) = V at v0 vj
  generalize vq_f (cI_f co) n (bI s.2.1) = U at u0 uj
  have e1 : (cs * s.2.2.1).toInt = cs.toInt * s.2.2.1.toInt := i6_mul (a := 200000000) (b := 162009) b1 (by omega) (by decide)
  have e2 : (s.2.2.2 * be).toInt = s.2.2.2.toInt * be.toInt := i6_mul (a := 200000000) (b := 162009) b2 (by omega) (by decide)
  have key : ∀ j, j ≤ n → (¬ (bs_f tr s.2.1 s.2.2.1 be (tk_b s.1 (cs * s.2.2.1) (s.2.2.2 * be)) (tk_e s.1 (cs * s.2.2.1) (s.2.2.2 * be)) j).2 = 0 ↔ ∀ i, i ≤ j → V i * s.2.2.1.toInt = U i * be.toInt) ∧ (¬ (bs_f tr s.2.1 s.2.2.1 be (tk_b s.1 (cs * s.2.2.1) (s.2.2.2 * be)) (tk_e s.1 (cs * s.2.2.1) (s.2.2.2 * be)) j).1 = 0 ↔ xl_ok j V be.toInt U s.2.2.1.toInt) := by
    intro j
    induction j with
    | zero =>
      intro _
      show (¬ tk_e s.1 (cs * s.2.2.1) (s.2.2.2 * be) = 0 ↔ _) ∧ (¬ tk_b s.1 (cs * s.2.2.1) (s.2.2.2 * be) = 0 ↔ _)
      unfold tk_e tk_b
      constructor
      · by_cases h : cs * s.2.2.1 = s.2.2.2 * be
        · rw [if_pos ⟨hf, h⟩]
          refine ⟨fun _ i hi => ?_, fun _ => by decide⟩
          rcases (show i = 0 by omega) with rfl
          rw [v0, u0, ← e1, ← e2, h]
        · rw [if_neg (fun q => h q.2)]
          refine ⟨fun q => absurd rfl q, fun q => absurd ?_ h⟩
          have := q 0 (Nat.le_refl _)
          rw [v0, u0, ← e1, ← e2] at this
          exact Int64.toInt_inj.mp this
      · by_cases h : s.2.2.2 * be ≤ cs * s.2.2.1
        · rw [if_neg (fun q => q.elim hf (fun z => z h))]
          refine ⟨fun q => absurd rfl q, fun ⟨i, hi, _, l⟩ => ?_⟩
          rcases (show i = 0 by omega) with rfl
          rw [Int64.le_iff_toInt_le, e1, e2] at h
          rw [v0, u0] at l
          omega
        · rw [if_pos (Or.inr h)]
          refine ⟨fun _ => ⟨0, Nat.le_refl _, fun i hi => absurd hi (Nat.not_lt_zero _), ?_⟩, fun _ => by decide⟩
          rw [Int64.le_iff_toInt_le, e1, e2] at h
          rw [v0, u0]; omega
    | succ j ih =>
      intro hj
      obtain ⟨i1, i2⟩ := ih (by omega)
      have f1 : (tr j * s.2.2.1).toInt = (tr j).toInt * s.2.2.1.toInt := i6_mul (a := 3240180) (b := 162009) (ht j (by omega)) (by omega) (by decide)
      have f2 : (s.2.1 j * be).toInt = (s.2.1 j).toInt * be.toInt := i6_mul (a := 3240180) (b := 162009) (hst j (by omega)) (by omega) (by decide)
      show (¬ (if _ = 0 then _ else _ : Int32 × Int32).2 = 0 ↔ _) ∧ (¬ (if _ = 0 then _ else _ : Int32 × Int32).1 = 0 ↔ _)
      by_cases h : (bs_f tr s.2.1 s.2.2.1 be (tk_b s.1 (cs * s.2.2.1) (s.2.2.2 * be)) (tk_e s.1 (cs * s.2.2.1) (s.2.2.2 * be)) j).2 = 0
      · rw [if_pos h]
        have hne : ¬ ∀ i, i ≤ j → V i * s.2.2.1.toInt = U i * be.toInt := fun q => (i1.mpr q) h
        constructor
        · exact ⟨fun q => absurd h q, fun q => absurd (fun i hi => q i (by omega)) hne⟩
        · rw [i2]
          constructor
          · rintro ⟨i, hi, a, b⟩; exact ⟨i, by omega, a, b⟩
          · rintro ⟨i, hi, a, b⟩
            rcases Nat.lt_or_eq_of_le hi with q | q
            · exact ⟨i, by omega, a, b⟩
            · exact absurd (fun t ht => a t (by omega)) hne
      · rw [if_neg h]
        have hall := i1.mp h
        constructor
        · show ¬ eq_f (tr j * s.2.2.1) (s.2.1 j * be) = 0 ↔ _
          unfold eq_f
          by_cases z : tr j * s.2.2.1 = s.2.1 j * be
          · rw [if_pos z]
            refine ⟨fun _ i hi => ?_, fun _ => by decide⟩
            rcases Nat.lt_or_eq_of_le hi with q | q
            · exact hall i (by omega)
            · rw [q, vj, uj, ← f1, ← f2, z]
          · rw [if_neg z]
            refine ⟨fun q => absurd rfl q, fun q => absurd ?_ z⟩
            have := q (j + 1) (Nat.le_refl _)
            rw [vj, uj, ← f1, ← f2] at this
            exact Int64.toInt_inj.mp this
        · show ¬ lt_f (tr j * s.2.2.1) (s.2.1 j * be) = 0 ↔ _
          unfold lt_f
          by_cases z : s.2.1 j * be ≤ tr j * s.2.2.1
          · rw [if_pos z]
            rw [Int64.le_iff_toInt_le, f1, f2] at z
            refine ⟨fun q => absurd rfl q, fun ⟨i, hi, a, b⟩ => ?_⟩
            rcases Nat.lt_or_eq_of_le hi with q | q
            · have := hall i (by omega); omega
            · rw [q, vj, uj] at b; omega
          · rw [if_neg z]
            rw [Int64.le_iff_toInt_le, f1, f2] at z
            exact ⟨fun _ => ⟨j + 1, Nat.le_refl _, fun i hi => hall i (by omega), by rw [vj, uj]; omega⟩, fun _ => by decide⟩
  exact (key n (Nat.le_refl _)).2
end MI
