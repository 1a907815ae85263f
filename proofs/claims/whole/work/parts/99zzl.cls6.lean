/-! pruning leaves nothing out; the children of a node -/
theorem sm_at {f g : Nat → Int} {j : Nat} : ∀ n, j < n → (∀ i, i < n → ¬ i = j → g i = f i) → sm_f g n = sm_f f n - f j + g j
  | 0, h, _ => absurd h (Nat.not_lt_zero _)
  | n + 1, h, hg => by
    show sm_f g n + g n = sm_f f n + f n - f j + g j
    by_cases e : n = j
    · subst e
      rw [sm_cg n (f := g) (g := f) (fun i hi => hg i (by omega) (by omega))]
      omega
    · rw [sm_at n (by omega) (fun i hi => hg i (by omega)), hg n (by omega) e]
      omega
section DG
variable {lo hi wh co bd : Nat → Int32} {M : Nat → Nat → Int32} {n k : Nat} {vals : Nat → Int32} {lz : Int32} {wd : Nat → Nat} {j fr : Nat} {lc : Int32} {se : Nat → Int32} {s : sg_T}
theorem pr_1 (hq : pq_ok lo hi co M bd n k) (hI : sI_ok (wk_ok wh lz) lo hi M bd co n k s) (hN : ni_ok (wk_ok wh lz) lo hi co n j fr lc se) (hA : ¬ ib_ok s.1 s.2.1 s.2.2.1 s.2.2.2.1 se lc 1 n) {d : Int} {x : Nat → Int} {R : List Nat} (hd : 0 < d) (hk : ki_ok lo hi M bd n k d x) (hB : bn_ok j fr se d x R) : sQ_ok co n s d x := by
  have hf : ¬ s.1 = 0 := fun q => hA (Or.inl q)
  obtain ⟨a1, a2, a3, a4⟩ := hI hf
  refine ⟨hf, fun hl => hA (Or.inr ?_)⟩
  have hlb : lc.toInt.natAbs ≤ 2000000000 := by
    rw [hN.2.2.2.2.2]
    have := sm_bb (f := nl_f lo hi co se j fr) (K := 180) n (fun i hi => (nl_b hq hN hi).1)
    have h2 : n * 180 ≤ 4 * 180 := Nat.mul_le_mul_right _ hq.1.2
    omega
  have hst : ∀ j, j < n → (s.2.1 j).toInt.natAbs ≤ 3240180 := fun j hj => ki_b2 hq a1 a3 hj
  have hbb : s.2.2.2.1.toInt.natAbs ≤ 2000000000 := by
    have := sm_b (c := fun j => (co j).toInt) (x := fun j => (s.2.1 j).toInt) (K := 3240180) n (fun j hj => ⟨(hq.2.2.1 j hj).2, hst j hj⟩)
    have h2 : n * (9 * 3240180) ≤ 4 * (9 * 3240180) := Nat.mul_le_mul_right _ hq.1.2
    rw [a2]; omega
  have hib := ib_int (n := n) (best := s.2.1) (x := se) (dv := s.2.2.1) (cs := s.2.2.2.1) (xc := lc) (d := 1) (V := fun i => if i = 0 then lc.toInt else (se (i - 1)).toInt) (U := vq_f (cI_f co) n (jI s.2.1)) rfl a2.symm (fun j => rfl) (fun j => rfl) hlb hbb ⟨by decide, by decide⟩ a1 (fun i hi => nb_le (nl_b hq hN hi).2 (by decide)) (fun j hj => nb_le (hst j hj) (by decide))
  rw [hib]
  refine lo_lex hd a1.1 (fun i hi => ?_) hl
  by_cases e : i = 0
  · subst e
    show lc.toInt * d ≤ sm_f (fun j => cI_f co j * x j) n
    rw [hN.2.2.2.2.2, ← sm_mul]
    refine sm_le n (fun i hi => ?_)
    unfold nl_f cI_f
    by_cases h : i < j ∧ fr / 2 ^ i % 2 = 0
    · rw [if_pos h, hB.2 i h.1 h.2, Int.mul_assoc]; exact Int.le_refl _
    · rw [if_neg h]; exact lk_le (hk.1 i hi)
  · show (if i = 0 then lc.toInt else (se (i - 1)).toInt) * d ≤ (if i = 0 then _ else x (i - 1))
    rw [if_neg e, if_neg e]
    exact (bn_ge hN hB hk (by omega)).1
theorem cb_int (hq : pq_ok lo hi co M bd n k) (hN : ni_ok (wk_ok wh lz) lo hi co n j fr lc se) {i : Nat} (hik : i < k) : ∀ m, m ≤ n → (cb_s (M i) hi se j fr m).toInt = sm_f (fun t => (M i t).toInt * (if (j ≤ t ∨ ¬ fr / 2 ^ t % 2 = 0) ∧ ¬ 0 ≤ (M i t).toInt then (hi t).toInt else (se t).toInt)) m ∧ (cb_s (M i) hi se j fr m).toInt.natAbs ≤ m * 180
  | 0, _ => ⟨rfl, by show (0 : Int32).toInt.natAbs ≤ _; rw [show (0 : Int32).toInt = 0 from rfl]; omega⟩
  | m + 1, hm => by
    obtain ⟨e1, e2⟩ := cb_int hq hN hik m (by omega)
    have z0 : (0 : Int32).toInt = 0 := rfl
    have a := (hq.2.2.1 m (by omega)).1
    have b := (hq.2.2.2 i hik).1 m (by omega)
    have c := (nl_b hq hN (show m < n by omega)).2
    have hv : (if (j ≤ m ∨ ¬ fr / 2 ^ m % 2 = 0) ∧ ¬ 0 ≤ M i m then hi m else se m).toInt = (if (j ≤ m ∨ ¬ fr / 2 ^ m % 2 = 0) ∧ ¬ 0 ≤ (M i m).toInt then (hi m).toInt else (se m).toInt) ∧ (if (j ≤ m ∨ ¬ fr / 2 ^ m % 2 = 0) ∧ ¬ 0 ≤ M i m then hi m else se m).toInt.natAbs ≤ 20 := by
      have hc : (0 ≤ M i m) ↔ (0 ≤ (M i m).toInt) := by rw [Int32.le_iff_toInt_le, z0]
      by_cases h : (j ≤ m ∨ ¬ fr / 2 ^ m % 2 = 0) ∧ ¬ 0 ≤ M i m
      · rw [if_pos h, if_pos ⟨h.1, fun q => h.2 (hc.mpr q)⟩]; exact ⟨rfl, by omega⟩
      · rw [if_neg h, if_neg (fun q => h ⟨q.1, fun z => q.2 (hc.mp z)⟩)]; exact ⟨rfl, c⟩
    generalize hvv : (if (j ≤ m ∨ ¬ fr / 2 ^ m % 2 = 0) ∧ ¬ 0 ≤ M i m then hi m else se m) = v at hv
    have p := i3_mul (x := M i m) (y := v) (a := 9) (b := 20) b hv.2 (by decide)
    have pb := nb_m b hv.2
    have hm2 : (m + 1) * 180 = m * 180 + 180 := Nat.succ_mul _ _
    have hm3 : m * 180 ≤ 4 * 180 := Nat.mul_le_mul_right _ (by have := hq.1.2; omega)
    have q : (cb_s (M i) hi se j fr (m + 1)).toInt = (cb_s (M i) hi se j fr m).toInt + (M i m).toInt * v.toInt := by
      show (cb_s (M i) hi se j fr m + M i m * (if (j ≤ m ∨ ¬ fr / 2 ^ m % 2 = 0) ∧ ¬ 0 ≤ M i m then hi m else se m)).toInt = _
      rw [hvv, Int32.toInt_add, p]; exact Int.bmod_eq_of_le (by omega) (by omega)
    rw [q]
    refine ⟨?_, by omega⟩
    rw [e1, hv.1]; rfl
theorem pr_2 (hq : pq_ok lo hi co M bd n k) (hN : ni_ok (wk_ok wh lz) lo hi co n j fr lc se) (hA : ¬ cb_ok M bd hi se j fr n k) {d : Int} {x : Nat → Int} {R : List Nat} (hd : 0 < d) (hk : ki_ok lo hi M bd n k d x) (hB : bn_ok j fr se d x R) : False := by
  refine hA (fun i hik => ?_)
  rw [Int32.le_iff_toInt_le, (cb_int hq hN hik n (Nat.le_refl _)).1]
  refine Int.le_of_mul_le_mul_right (a := d) ?_ hd
  refine Int.le_trans ?_ (hk.2 i hik)
  rw [← sm_mul]
  refine sm_le n (fun t ht => ?_)
  have hx := hk.1 t ht
  have hg := bn_ge hN hB hk ht
  by_cases h : (j ≤ t ∨ ¬ fr / 2 ^ t % 2 = 0) ∧ ¬ 0 ≤ (M i t).toInt
  · rw [if_pos h, Int.mul_assoc]
    exact Int.mul_le_mul_of_nonpos_left (by omega) hx.2
  · rw [if_neg h, Int.mul_assoc]
    by_cases c : 0 ≤ (M i t).toInt
    · exact Int.mul_le_mul_of_nonneg_left hg.1 c
    · have e := hg.2 (Classical.byContradiction fun z => h ⟨Or.inr z, c⟩) (Nat.lt_of_not_le fun z => h ⟨Or.inl z, c⟩)
      rw [e]; exact Int.le_refl _
/-- the values that are settled in turn -/
theorem vl_int (hq : pq_ok lo hi co M bd n k) (hw : ∀ i, i < n → (hi i).toInt = (lo i).toInt + wd i) (hj : j < n) {t : Nat} (ht : t ≤ wd j) : (vl_f lo co wd j t).toInt = (lo j).toInt + (if 0 ≤ (co j).toInt then (t : Int) else wd j - t) := by
  have a := (hq.2.2.1 j hj).1
  have c := hw j hj
  have z0 : (0 : Int32).toInt = 0 := rfl
  have et := nI_toInt (n := t) (by omega)
  have ew := nI_toInt (n := wd j) (by omega)
  unfold vl_f
  by_cases h : 0 ≤ co j
  · have h2 : 0 ≤ (co j).toInt := by have := Int32.le_iff_toInt_le.mp h; omega
    rw [if_pos h, if_pos h2, Int32.toInt_add, et]; exact Int.bmod_eq_of_le (by omega) (by omega)
  · have h2 : ¬ 0 ≤ (co j).toInt := fun q => h (Int32.le_iff_toInt_le.mpr (by omega))
    have e : (nI (wd j) - nI t).toInt = wd j - t := by rw [Int32.toInt_sub, et, ew]; exact Int.bmod_eq_of_le (by omega) (by omega)
    rw [if_neg h, if_neg h2, Int32.toInt_add, e]; exact Int.bmod_eq_of_le (by omega) (by omega)
theorem ni_v (hq : pq_ok lo hi co M bd n k) (hN : ni_ok (wk_ok wh lz) lo hi co n j fr lc se) (hj : j < n) {v : Int32} (hv : sv_ok (wk_ok wh lz) lo hi v j) : ni_ok (wk_ok wh lz) lo hi co n (j + 1) fr (lc - lc_f lo hi co j + co j * v) (upd se j v) := by
  have hn := hq.1.2
  have hb := bt_s1 j (by omega) fr hN.2.1
  have hp := bt_pw j (by omega)
  refine ⟨by omega, by omega, fun i hi h => ?_, fun i hi h => ?_, fun i hi h => ?_, ?_⟩
  · rcases Nat.lt_or_eq_of_le (Nat.le_of_lt_succ hi) with q | q
    · exact hN.2.2.1 i q h
    · rw [q] at h; exact absurd hb.1.2.2 h
  · rcases Nat.lt_or_eq_of_le (Nat.le_of_lt_succ hi) with q | q
    · rw [pk_un (by omega)]; exact hN.2.2.2.1 i q h
    · subst q; rw [pk_us]; exact hv
  · have hij : ¬ i = j := fun e => by
      subst e
      rcases h with z | z
      · omega
      · exact z hb.1.2.2
    rw [pk_un hij]
    exact hN.2.2.2.2.1 i hi (h.imp (fun z => by omega) id)
  · have a := hq.2.2.1 j hj
    have hl := lc_int hq hj
    have hs := sm_bb (f := nl_f lo hi co se j fr) (K := 180) n (fun i hi => (nl_b hq hN hi).1)
    have h2 : n * 180 ≤ 4 * 180 := Nat.mul_le_mul_right _ hq.1.2
    have hlc := hN.2.2.2.2.2
    have e1 := i3_mul (x := co j) (y := v) (a := 9) (b := 20) a.2 (by have := hv.1; omega) (by decide)
    have p1 := nb_m (x := (co j).toInt) (y := v.toInt) (a := 9) (b := 20) a.2 (by have := hv.1; omega)
    have e2 : (lc - lc_f lo hi co j).toInt = lc.toInt - lk_f lo hi co j := by rw [Int32.toInt_sub, hl.1]; exact Int.bmod_eq_of_le (by omega) (by omega)
    have e3 : (lc - lc_f lo hi co j + co j * v).toInt = lc.toInt - lk_f lo hi co j + (co j).toInt * v.toInt := by rw [Int32.toInt_add, e2, e1]; exact Int.bmod_eq_of_le (by omega) (by omega)
    rw [e3, hlc, sm_at (f := nl_f lo hi co se j fr) (g := nl_f lo hi co (upd se j v) (j + 1) fr) n hj (fun i hi hij => ?_)]
    · have f1 : nl_f lo hi co se j fr j = lk_f lo hi co j := if_neg (fun q => absurd q.1 (Nat.lt_irrefl _))
      have f2 : nl_f lo hi co (upd se j v) (j + 1) fr j = (co j).toInt * v.toInt := by
        unfold nl_f
        rw [if_pos ⟨Nat.lt_succ_self _, hb.1.2.2⟩, pk_us]
      rw [f1, f2]
    · unfold nl_f
      rw [pk_un hij]
      by_cases z : i < j ∧ fr / 2 ^ i % 2 = 0
      · rw [if_pos z, if_pos ⟨by omega, z.2⟩]
      · rw [if_neg z, if_neg (fun q => z ⟨by omega, q.2⟩)]
theorem ni_f (hq : pq_ok lo hi co M bd n k) (hN : ni_ok (wk_ok wh lz) lo hi co n j fr lc se) (hj : j < n) (hw : ¬ wk_ok wh lz j) : ni_ok (wk_ok wh lz) lo hi co n (j + 1) (fr + 2 ^ j) lc se := by
  have hn := hq.1.2
  have hb := bt_s1 j (by omega) fr hN.2.1
  refine ⟨by omega, hb.1.1, fun i hi h => ?_, fun i hi h => ?_, fun i hi h => ?_, ?_⟩
  · rcases Nat.lt_or_eq_of_le (Nat.le_of_lt_succ hi) with q | q
    · exact hN.2.2.1 i q (by rw [← hb.2 i q]; exact h)
    · rw [q]; exact hw
  · rcases Nat.lt_or_eq_of_le (Nat.le_of_lt_succ hi) with q | q
    · exact hN.2.2.2.1 i q (by rw [← hb.2 i q]; exact h)
    · rw [q] at h; exact absurd h hb.1.2.1
  · refine hN.2.2.2.2.1 i hi ?_
    rcases Nat.lt_or_ge i j with q | q
    · refine Or.inr ?_
      rw [← hb.2 i q]
      exact h.resolve_left (by omega)
    · exact Or.inl q
  · rw [hN.2.2.2.2.2]
    refine sm_cg n (fun i hi => ?_)
    unfold nl_f
    by_cases e : i = j
    · subst e
      rw [if_neg (fun q => absurd q.1 (Nat.lt_irrefl _)), if_neg (fun q => hb.1.2.1 q.2)]
    · by_cases z : i < j
      · have := hb.2 i z
        by_cases y : fr / 2 ^ i % 2 = 0
        · rw [if_pos ⟨z, y⟩, if_pos ⟨by omega, by omega⟩]
        · rw [if_neg (fun q => y q.2), if_neg (fun q => y (by omega))]
      · rw [if_neg (fun q => z q.1), if_neg (fun q => z (by omega))]
end DG
