/-! the planner's comparison and its taking, over the integers -/
def jI (f : Nat → Int32) : Nat → Int := fun j => (f j).toInt
def sI_ok (w : Nat → Prop) (lo hi : Nat → Int32) (M : Nat → Nat → Int32) (bd co : Nat → Int32) (n k : Nat) (s : sg_T) : Prop := ¬ s.1 = 0 → (0 < s.2.2.1.toInt ∧ s.2.2.1.toInt ≤ 162009) ∧ s.2.2.2.1.toInt = sm_f (fun j => (co j).toInt * (s.2.1 j).toInt) n ∧ ki_ok lo hi M bd n k s.2.2.1.toInt (jI s.2.1) ∧ kn_ok w lo hi M bd n k s.2.2.1.toInt (jI s.2.1)
def sQ_ok (co : Nat → Int32) (n : Nat) (s : sg_T) (d : Int) (x : Nat → Int) : Prop := ¬ s.1 = 0 ∧ ¬ xl_ok n (vq_f (cI_f co) n x) d (vq_f (cI_f co) n (jI s.2.1)) s.2.2.1.toInt
section CI
variable {w : Nat → Prop} {lo hi co bd : Nat → Int32} {M : Nat → Nat → Int32} {n k : Nat}
theorem t6_mul {x y : Int32} {a b : Nat} (hx : x.toInt.natAbs ≤ a) (hy : y.toInt.natAbs ≤ b) (hab : a * b ≤ 4000000000000000000) : (x.toInt64 * y.toInt64).toInt = x.toInt * y.toInt := by
  rw [i6_mul (a := a) (b := b) (by rw [Int32.toInt_toInt64]; exact hx) (by rw [Int32.toInt_toInt64]; exact hy) hab, Int32.toInt_toInt64, Int32.toInt_toInt64]
/-- v is a lexical vector: v 0 the cost xc, then the amounts x -/
theorem ib_int {best x : Nat → Int32} {dv cs xc d : Int32} {V U : Nat → Int} (v0 : V 0 = xc.toInt) (u0 : U 0 = cs.toInt) (vj : ∀ j, V (j + 1) = (x j).toInt) (uj : ∀ j, U (j + 1) = (best j).toInt) (b1 : xc.toInt.natAbs ≤ 2000000000) (b2 : cs.toInt.natAbs ≤ 2000000000) (hd : 0 < d.toInt ∧ d.toInt ≤ 162009) (hv : 0 < dv.toInt ∧ dv.toInt ≤ 162009)
    (hx : ∀ j, j < n → (x j).toInt.natAbs ≤ 20000000) (hb : ∀ j, j < n → (best j).toInt.natAbs ≤ 20000000) : ¬ ib_l best x dv d (cs.toInt64 * d.toInt64 - xc.toInt64 * dv.toInt64) n ≤ 0 ↔ xl_ok n V d.toInt U dv.toInt := by
  have z0 : (0 : Int64).toInt = 0 := rfl
  have e0 : (cs.toInt64 * d.toInt64 - xc.toInt64 * dv.toInt64).toInt = cs.toInt * d.toInt - xc.toInt * dv.toInt := by
    have p1 := t6_mul (x := cs) (y := d) (a := 2000000000) (b := 162009) b2 (by omega) (by decide)
    have p2 := t6_mul (x := xc) (y := dv) (a := 2000000000) (b := 162009) b1 (by omega) (by decide)
    have q1 := nb_m b2 (show d.toInt.natAbs ≤ 162009 by omega)
    have q2 := nb_m b1 (show dv.toInt.natAbs ≤ 162009 by omega)
    rw [i6_sub (by rw [p1, p2]; omega), p1, p2]
  have key : ∀ j, j ≤ n → ((ib_l best x dv d (cs.toInt64 * d.toInt64 - xc.toInt64 * dv.toInt64) j).toInt = 0 ↔ ∀ i, i ≤ j → V i * dv.toInt = U i * d.toInt) ∧ (0 < (ib_l best x dv d (cs.toInt64 * d.toInt64 - xc.toInt64 * dv.toInt64) j).toInt ↔ xl_ok j V d.toInt U dv.toInt) := by
    intro j
    induction j with
    | zero =>
      intro _
      show ((cs.toInt64 * d.toInt64 - xc.toInt64 * dv.toInt64).toInt = 0 ↔ _) ∧ (0 < (cs.toInt64 * d.toInt64 - xc.toInt64 * dv.toInt64).toInt ↔ _)
      rw [e0]
      constructor
      · constructor
        · intro h i hi
          rcases (show i = 0 by omega) with rfl
          rw [v0, u0]; omega
        · intro h
          have := h 0 (Nat.le_refl _)
          rw [v0, u0] at this; omega
      · constructor
        · intro h
          exact ⟨0, Nat.le_refl _, fun i hi => absurd hi (Nat.not_lt_zero _), by rw [v0, u0]; omega⟩
        · rintro ⟨i, hi, -, l⟩
          rcases (show i = 0 by omega) with rfl
          rw [v0, u0] at l; omega
    | succ j ih =>
      intro hj
      obtain ⟨i1, i2⟩ := ih (by omega)
      have e1 : ((best j).toInt64 * d.toInt64 - (x j).toInt64 * dv.toInt64).toInt = (best j).toInt * d.toInt - (x j).toInt * dv.toInt := by
        have p1 := t6_mul (x := best j) (y := d) (a := 20000000) (b := 162009) (hb j (by omega)) (by omega) (by decide)
        have p2 := t6_mul (x := x j) (y := dv) (a := 20000000) (b := 162009) (hx j (by omega)) (by omega) (by decide)
        have q1 := nb_m (hb j (by omega)) (show d.toInt.natAbs ≤ 162009 by omega)
        have q2 := nb_m (hx j (by omega)) (show dv.toInt.natAbs ≤ 162009 by omega)
        rw [i6_sub (by rw [p1, p2]; omega), p1, p2]
      show ((if _ = 0 then _ else _ : Int64).toInt = 0 ↔ _) ∧ (0 < (if _ = 0 then _ else _ : Int64).toInt ↔ _)
      by_cases h : ib_l best x dv d (cs.toInt64 * d.toInt64 - xc.toInt64 * dv.toInt64) j = 0
      · rw [if_pos h, e1]
        have hall := i1.mp (by rw [h]; rfl)
        constructor
        · constructor
          · intro z i hi
            rcases Nat.lt_or_eq_of_le hi with q | q
            · exact hall i (by omega)
            · rw [q, vj, uj]; omega
          · intro z
            have := z (j + 1) (Nat.le_refl _)
            rw [vj, uj] at this; omega
        · constructor
          · intro z
            exact ⟨j + 1, Nat.le_refl _, fun i hi => hall i (by omega), by rw [vj, uj]; omega⟩
          · rintro ⟨i, hi, a, b⟩
            rcases Nat.lt_or_eq_of_le hi with q | q
            · have := hall i (by omega); omega
            · rw [q, vj, uj] at b; omega
      · rw [if_neg h]
        have hne : ¬ ∀ i, i ≤ j → V i * dv.toInt = U i * d.toInt := fun q => h (Int64.toInt_inj.mp (i1.mpr q))
        constructor
        · exact ⟨fun q => absurd (i1.mp q) hne, fun q => absurd (fun i hi => q i (by omega)) hne⟩
        · rw [i2]
          constructor
          · rintro ⟨i, hi, a, b⟩; exact ⟨i, by omega, a, b⟩
          · rintro ⟨i, hi, a, b⟩
            rcases Nat.lt_or_eq_of_le hi with q | q
            · exact ⟨i, by omega, a, b⟩
            · exact absurd (fun t ht => a t (by omega)) hne
  rw [← (key n (Nat.le_refl _)).2, Int64.le_iff_toInt_le, z0]
  omega
theorem wg_int {c x : Nat → Int32} {K : Nat} (hK : K ≤ 20000000) : ∀ m, m ≤ 4 → (∀ j, j < m → (c j).toInt.natAbs ≤ 9 ∧ (x j).toInt.natAbs ≤ K) → (wg_sum c x m).toInt = sm_f (fun j => (c j).toInt * (x j).toInt) m ∧ (wg_sum c x m).toInt.natAbs ≤ m * (9 * K)
  | 0, _, _ => ⟨rfl, by show (0 : Int64).toInt.natAbs ≤ _; rw [show (0 : Int64).toInt = 0 from rfl]; omega⟩
  | m + 1, hm, h => by
    obtain ⟨e1, e2⟩ := wg_int hK m (by omega) (fun j hj => h j (by omega))
    obtain ⟨a, b⟩ := h m (by omega)
    have p := t6_mul (x := c m) (y := x m) (a := 9) (b := K) a b (by omega)
    have pb := nb_m a b
    have hm2 : (m + 1) * (9 * K) = m * (9 * K) + 9 * K := Nat.succ_mul _ _
    have hm3 : m * (9 * K) ≤ 3 * (9 * K) := Nat.mul_le_mul_right _ (by omega)
    have q : (wg_sum c x (m + 1)).toInt = (wg_sum c x m).toInt + (c m).toInt * (x m).toInt := by
      show (wg_sum c x m + (c m).toInt64 * (x m).toInt64).toInt = _
      rw [i6_add (by rw [p]; omega), p]
    rw [q]
    exact ⟨by rw [e1]; rfl, by omega⟩
theorem kp_int (hq : pq_ok lo hi co M bd n k) {d : Int32} {x : Nat → Int32} (hb : 0 < d.toInt ∧ d.toInt ≤ 162009) (ht : ∀ j, j < n → (x j).toInt.natAbs ≤ 20000000) : kp_ok lo hi M bd x d n k ↔ ki_ok lo hi M bd n k d.toInt (jI x) := by
  have hm : ∀ v : Int32, v.toInt.natAbs ≤ 99 → (v.toInt64 * d.toInt64).toInt = v.toInt * d.toInt := fun v hv => t6_mul (a := 99) (b := 162009) hv (by omega) (by decide)
  unfold kp_ok ki_ok
  refine and_congr ?_ ?_
  · unfold kb_ok
    refine forall_congr' fun j => forall_congr' fun hj => ?_
    have a := (hq.2.2.1 j hj).1
    rw [Int64.le_iff_toInt_le, Int64.le_iff_toInt_le, hm _ (by omega), hm _ (by omega), Int32.toInt_toInt64]
    exact Iff.rfl
  · unfold kl_ok
    refine forall_congr' fun i => forall_congr' fun hi => ?_
    have b := hq.2.2.2 i hi
    rw [Int64.le_iff_toInt_le, hm _ b.2, (wg_int (c := M i) (Nat.le_refl _) n hq.1.2 (fun j hj => ⟨b.1 j hj, ht j hj⟩)).1]
    exact Iff.rfl
theorem ki_b2 (hq : pq_ok lo hi co M bd n k) {d : Int} {x : Nat → Int} (hd : 0 < d ∧ d ≤ 162009) (h : ki_ok lo hi M bd n k d x) {j : Nat} (hj : j < n) : (x j).natAbs ≤ 3240180 := by
  have a := (hq.2.2.1 j hj).1
  have b := h.1 j hj
  have l1 : -20 * d ≤ (lo j).toInt * d := Int.mul_le_mul_of_nonneg_right a.1 (by omega)
  have l2 : (hi j).toInt * d ≤ 20 * d := Int.mul_le_mul_of_nonneg_right a.2.2 (by omega)
  omega
theorem sm_b {c x : Nat → Int} {K : Nat} : ∀ m, (∀ j, j < m → (c j).natAbs ≤ 9 ∧ (x j).natAbs ≤ K) → (sm_f (fun j => c j * x j) m).natAbs ≤ m * (9 * K)
  | 0, _ => by show (0 : Int).natAbs ≤ _; simp
  | m + 1, h => by
    have a := sm_b m (fun j hj => h j (by omega))
    have b := nb_m (h m (by omega)).1 (h m (by omega)).2
    have hm2 : (m + 1) * (9 * K) = m * (9 * K) + 9 * K := Nat.succ_mul _ _
    show (sm_f (fun j => c j * x j) m + c m * x m).natAbs ≤ _
    omega
/-- a corner is taken if it is a plan and comes before what was found -/
theorem tk_step (hq : pq_ok lo hi co M bd n k) {s : sg_T} {d xc : Int32} (hI : sI_ok w lo hi M bd co n k s) (hb : 0 < d.toInt ∧ d.toInt ≤ 162009) (ht : ∀ j, j < n → (s.2.2.2.2.2 j).toInt.natAbs ≤ 18000000) (hc : xc.toInt = sm_f (fun j => (co j).toInt * (s.2.2.2.2.2 j).toInt) n) (hkn : kn_ok w lo hi M bd n k d.toInt (jI s.2.2.2.2.2)) :
    sI_ok w lo hi M bd co n k (tk_s lo hi co M bd n k d xc s) ∧ (∀ e x, 0 < e → sQ_ok co n s e x → sQ_ok co n (tk_s lo hi co M bd n k d xc s) e x) ∧ (ki_ok lo hi M bd n k d.toInt (jI s.2.2.2.2.2) → sQ_ok co n (tk_s lo hi co M bd n k d xc s) d.toInt (jI s.2.2.2.2.2)) := by
  have hkp := kp_int hq hb (fun j hj => nb_le (ht j hj) (by decide))
  have hcb : xc.toInt.natAbs ≤ 2000000000 := by
    have := sm_b (c := fun j => (co j).toInt) (x := fun j => (s.2.2.2.2.2 j).toInt) (K := 18000000) n (fun j hj => ⟨(hq.2.2.1 j hj).2, ht j hj⟩)
    have h2 : n * (9 * 18000000) ≤ 4 * (9 * 18000000) := Nat.mul_le_mul_right _ hq.1.2
    rw [hc]; omega
  have hiff : ib_ok s.1 s.2.1 s.2.2.1 s.2.2.2.1 s.2.2.2.2.2 xc d n ↔ (s.1 = 0 ∨ xl_ok n (vq_f (cI_f co) n (jI s.2.2.2.2.2)) d.toInt (vq_f (cI_f co) n (jI s.2.1)) s.2.2.1.toInt) := by
    unfold ib_ok
    by_cases hf : s.1 = 0
    · exact ⟨fun _ => Or.inl hf, fun _ => Or.inl hf⟩
    · obtain ⟨a1, a2, a3, a4⟩ := hI hf
      have hst : ∀ j, j < n → (s.2.1 j).toInt.natAbs ≤ 3240180 := fun j hj => ki_b2 hq a1 a3 hj
      have hbb : s.2.2.2.1.toInt.natAbs ≤ 2000000000 := by
        have := sm_b (c := fun j => (co j).toInt) (x := fun j => (s.2.1 j).toInt) (K := 3240180) n (fun j hj => ⟨(hq.2.2.1 j hj).2, hst j hj⟩)
        have h2 : n * (9 * 3240180) ≤ 4 * (9 * 3240180) := Nat.mul_le_mul_right _ hq.1.2
        rw [a2]; omega
      have := ib_int (n := n) (best := s.2.1) (x := s.2.2.2.2.2) (dv := s.2.2.1) (cs := s.2.2.2.1) (xc := xc) (d := d) (V := vq_f (cI_f co) n (jI s.2.2.2.2.2)) (U := vq_f (cI_f co) n (jI s.2.1)) hc.symm a2.symm (fun j => rfl) (fun j => rfl) hcb hbb hb a1 (fun j hj => nb_le (ht j hj) (by decide)) (fun j hj => nb_le (hst j hj) (by decide))
      rw [this]
  have hx : ∀ j, j < n → jI s.2.2.2.2.2 j = jI (mx_f s.2.2.2.2.2 s.2.1 4) j := fun j hj => by unfold jI mx_f; rw [if_pos (by have := hq.1.2; omega)]
  by_cases hT : ib_ok s.1 s.2.1 s.2.2.1 s.2.2.2.1 s.2.2.2.2.2 xc d n ∧ kp_ok lo hi M bd s.2.2.2.2.2 d n k
  · have e : tk_s lo hi co M bd n k d xc s = (1, mx_f s.2.2.2.2.2 s.2.1 4, d, xc, s.2.2.2.2.1, s.2.2.2.2.2) := ci_t hT
    have hki := hkp.mp hT.2
    have h1 : ¬ (1 : Int32) = 0 := by decide
    rw [e]
    refine ⟨fun _ => ⟨hb, ?_, ki_cg hx hki, kn_cg hx hkn⟩, fun e' x he hQ => ⟨h1, fun hl => ?_⟩, fun _ => ⟨h1, fun hl => ?_⟩⟩
    · rw [hc]
      refine sm_cg n (fun j hj => ?_)
      have : (s.2.2.2.2.2 j).toInt = (mx_f s.2.2.2.2.2 s.2.1 4 j).toInt := hx j hj
      dsimp only
      rw [this]
    · obtain ⟨q1, q2⟩ := hQ
      refine q2 ?_
      have l1 := (hiff.mp hT.1).resolve_left q1
      have l2 : xl_ok n (vq_f (cI_f co) n x) e' (vq_f (cI_f co) n (jI s.2.2.2.2.2)) d.toInt := xl_cg2 (fun i _ => rfl) (fun i hi => (vq_cg hx i hi).symm) hl
      exact xl_tr he hb.1 (hI q1).1.1 l2 l1
    · exact xl_ir (xl_cg2 (fun i _ => rfl) (fun i hi => (vq_cg hx i hi).symm) hl)
  · have e : tk_s lo hi co M bd n k d xc s = s := ci_n hT
    rw [e]
    refine ⟨hI, fun _ _ _ h => h, fun hki => ?_⟩
    have hn := fun q => hT ⟨hiff.mpr q, hkp.mpr hki⟩
    exact ⟨fun z => hn (Or.inl z), fun z => hn (Or.inr z)⟩
end CI
