/-! a corner that the reference tries, over the integers -/
def ra_f (lo hi wt bd : Nat → Int32) (fx : Nat → Int64) (re : Nat → Nat) (rs n : Nat) (p : Nat → Nat) : Nat → Nat → Int := fun r c => (mk_v lo hi wt bd fx re rs n (p r) c).toInt
def rb_f (lo hi wt bd : Nat → Int32) (fx : Nat → Int64) (re : Nat → Nat) (rs n : Nat) (p : Nat → Nat) : Nat → Int := fun r => ra_f lo hi wt bd fx re rs n p r 4
theorem nI_m1 {c : Nat} (h : c < 100) : ¬ nI c = -1 := fun e => by
  have := nI_toInt (n := c) (by omega)
  rw [e] at this
  have z : (-1 : Int32).toInt = -1 := by decide
  omega
def fz_ok (w : Nat → Prop) (lo hi : Nat → Int32) (n : Nat) (fx : Nat → Int64) : Prop := ∀ j, j < n → (w j → (lo j).toInt ≤ (fx j).toInt ∧ (fx j).toInt ≤ (hi j).toInt) ∧ (¬ w j → (fx j).toInt = 0)
section RA
variable {w : Nat → Prop} {lo hi wt bd co : Nat → Int32} {fx : Nat → Int64} {re : Nat → Nat} {rs n k : Nat} {p : Nat → Nat}
theorem ra_da {r c : Nat} (hc : c < 4) : da_f (mk_R lo hi wt bd fx re rs n) p (-1) r c = ra_f lo hi wt bd fx re rs n p r c := by
  unfold da_f ra_f cx_f
  rw [if_neg (nI_m1 (by omega)), mk_at (by omega)]
theorem ra_dc {r c c0 : Nat} (hc : c < 4) (h0 : c0 < 4) : da_f (mk_R lo hi wt bd fx re rs n) p (nI c0) r c = rc_f (ra_f lo hi wt bd fx re rs n p) (rb_f lo hi wt bd fx re rs n p) c0 r c := by
  unfold da_f rc_f rb_f ra_f cx_f
  by_cases e : c = c0
  · rw [if_pos e, if_pos (by rw [e]), mk_at (by decide)]
  · rw [if_neg e, if_neg (fun q => e ((nI_eq (by omega) (by omega)).mp q)), mk_at (by omega)]
theorem ra_u {r c : Nat} (h : p r < 2 * rs) (hc : c < 4) : ra_f lo hi wt bd fx re rs n p r c = if c = p r / 2 then 1 else 0 := by
  unfold ra_f mk_v
  rw [if_pos h, if_pos hc]
  by_cases e : c = p r / 2
  · rw [if_pos e, if_pos e]; rfl
  · rw [if_neg e, if_neg e]; rfl
theorem rb_u {r : Nat} (h : p r < 2 * rs) : rb_f lo hi wt bd fx re rs n p r = if p r % 2 = 0 then (lo (re (p r / 2))).toInt else (hi (re (p r / 2))).toInt := by
  unfold rb_f ra_f mk_v
  rw [if_pos h, if_neg (by decide)]
  by_cases e : p r % 2 = 0
  · rw [if_pos e, if_pos e, Int32.toInt_toInt64]
  · rw [if_neg e, if_neg e, Int32.toInt_toInt64]
theorem ra_l {r c : Nat} (h : ¬ p r < 2 * rs) (hc : c < rs) (hrs : rs ≤ 4) : ra_f lo hi wt bd fx re rs n p r c = (wt (4 * (p r - 2 * rs) + re c)).toInt := by
  unfold ra_f mk_v
  rw [if_neg h, if_pos (by omega), if_neg (by omega), Int32.toInt_toInt64]
theorem rb_l {r : Nat} (h : ¬ p r < 2 * rs) : rb_f lo hi wt bd fx re rs n p r = (lf_f wt bd fx (p r - 2 * rs) n).toInt := by
  unfold rb_f ra_f mk_v
  rw [if_neg h, if_neg (by decide)]
theorem fzb_20 (hq : pq_ok lo hi co (fun i j => wt (4 * i + j)) bd n k) (hfx : fz_ok w lo hi n fx) {j : Nat} (hj : j < n) : (fx j).toInt.natAbs ≤ 20 := by
  have a := (hq.2.2.1 j hj).1
  by_cases h : w j
  · have := (hfx j hj).1 h; omega
  · have := (hfx j hj).2 h; omega
theorem ra_b (hq : pq_ok lo hi co (fun i j => wt (4 * i + j)) bd n k) (hre : re_ok w re rs n) (hp : ic_ok rs (2 * rs + k) p) (hrs : 1 ≤ rs ∧ rs ≤ 4) {r c : Nat} (hr : r < rs) (hc : c < rs) : (ra_f lo hi wt bd fx re rs n p r c).natAbs ≤ 9 := by
  by_cases h : p r < 2 * rs
  · rw [ra_u h (by omega)]
    by_cases e : c = p r / 2
    · rw [if_pos e]; decide
    · rw [if_neg e]; decide
  · rw [ra_l h hc hrs.2]
    have := hp.2 r hr
    exact (hq.2.2.2 (p r - 2 * rs) (by omega)).1 (re c) (hre.1 c hc).1
theorem rb_b (hq : pq_ok lo hi co (fun i j => wt (4 * i + j)) bd n k) (hre : re_ok w re rs n) (hfx : fz_ok w lo hi n fx) (hp : ic_ok rs (2 * rs + k) p) {r : Nat} (hr : r < rs) : (rb_f lo hi wt bd fx re rs n p r).natAbs ≤ 1000 := by
  have hpr := hp.2 r hr
  by_cases h : p r < 2 * rs
  · rw [rb_u h]
    have a := (hq.2.2.1 (re (p r / 2)) (hre.1 (p r / 2) (by omega)).1).1
    by_cases e : p r % 2 = 0
    · rw [if_pos e]; omega
    · rw [if_neg e]; omega
  · rw [rb_l h]
    have b := hq.2.2.2 (p r - 2 * rs) (by omega)
    have := (lf_int (wt := wt) (fx := fx) b.2 n hq.1.2 (fun j hj => ⟨b.1 j hj, fzb_20 hq hfx hj⟩)).2
    have := hq.1.2
    omega
theorem dd_1 (hq : pq_ok lo hi co (fun i j => wt (4 * i + j)) bd n k) (hre : re_ok w re rs n) (hp : ic_ok rs (2 * rs + k) p) (hrs : 1 ≤ rs ∧ rs ≤ 4) : (dd_f (mk_R lo hi wt bd fx re rs n) p (-1) rs).toInt = xd_f rs (ra_f lo hi wt bd fx re rs n p) ∧ (xd_f rs (ra_f lo hi wt bd fx re rs n p)).natAbs ≤ 162009 := by
  refine ⟨?_, ?_⟩
  · rw [dd_int (cu := 9) hrs (fun r c h1 h2 => ?_)]
    · exact xd_cg hrs (fun r c h1 h2 => ra_da (by omega))
    · rw [ra_da (by omega)]
      have e : mb_f 9 c = 9 := if_neg (by omega)
      rw [e]; exact ra_b hq hre hp hrs h1 h2
  · exact nb_x1 (K := 9) hrs (fun r c h1 h2 => ra_b hq hre hp hrs h1 h2)
theorem dd_2 (hq : pq_ok lo hi co (fun i j => wt (4 * i + j)) bd n k) (hre : re_ok w re rs n) (hfx : fz_ok w lo hi n fx) (hp : ic_ok rs (2 * rs + k) p) (hrs : 1 ≤ rs ∧ rs ≤ 4) {c0 : Nat} (h0 : c0 < rs) : (dd_f (mk_R lo hi wt bd fx re rs n) p (nI c0) rs).toInt = xd_f rs (rc_f (ra_f lo hi wt bd fx re rs n p) (rb_f lo hi wt bd fx re rs n p) c0) ∧ (xd_f rs (rc_f (ra_f lo hi wt bd fx re rs n p) (rb_f lo hi wt bd fx re rs n p) c0)).natAbs ≤ 30000000000000 := by
  have hb : ∀ r c, r < rs → c < rs → (rc_f (ra_f lo hi wt bd fx re rs n p) (rb_f lo hi wt bd fx re rs n p) c0 r c).natAbs ≤ mb_f c0 c := by
    intro r c h1 h2
    unfold rc_f mb_f
    by_cases e : c = c0
    · rw [if_pos e, if_pos e]; exact rb_b hq hre hfx hp h1
    · rw [if_neg e, if_neg e]; exact ra_b hq hre hp hrs h1 h2
  refine ⟨?_, ?_⟩
  · rw [dd_int (cu := c0) hrs (fun r c h1 h2 => ?_)]
    · exact xd_cg hrs (fun r c h1 h2 => ra_dc (by omega) (by omega))
    · rw [ra_dc (by omega) (by omega)]; exact hb r c h1 h2
  · exact nb_le (nb_x1 (K := 1000) hrs (fun r c h1 h2 => nb_le (hb r c h1 h2) (mb_1 _ _))) (by decide)
/-- the point of the corner: its divisor and its numbers -/
theorem ct_at {RW : Nat → Int64} {sl : Int64} {ta : Nat → Int64} (hre : re_ok w re rs n) : ∀ m, m ≤ rs → (∀ c, c < m → ct_f RW p re rs sl ta m (re c) = dd_f RW p (nI c) rs * sl) ∧ ∀ j, (∀ c, c < m → ¬ re c = j) → ct_f RW p re rs sl ta m j = ta j
  | 0, _ => ⟨fun c h => absurd h (Nat.not_lt_zero _), fun _ _ => rfl⟩
  | m + 1, hm => by
    obtain ⟨a, b⟩ := ct_at (RW := RW) (sl := sl) (ta := ta) hre m (by omega)
    refine ⟨fun c hc => ?_, fun j hj => ?_⟩
    · show vp_updL (ct_f RW p re rs sl ta m) (re m) _ (re c) = _
      rcases Nat.lt_or_eq_of_le (Nat.le_of_lt_succ hc) with q | q
      · have := re_mono hre.2.1 m c q (by omega)
        rw [pk_uLn (by omega)]; exact a c q
      · rw [q, pk_uLs]
    · show vp_updL (ct_f RW p re rs sl ta m) (re m) _ j = _
      rw [pk_uLn (fun e => hj m (by omega) e.symm)]
      exact b j (fun c hc => hj c (by omega))
theorem sl_int {d : Int64} (h : ¬ d.toInt = 0) : ((sl_f d).toInt = 1 ∧ 0 < d.toInt) ∨ ((sl_f d).toInt = -1 ∧ d.toInt < 0) := by
  unfold sl_f
  by_cases e : 0 ≤ d
  · rw [if_pos e]
    have := Int64.le_iff_toInt_le.mp e
    have z : (0 : Int64).toInt = 0 := rfl
    exact Or.inl ⟨rfl, by omega⟩
  · rw [if_neg e]
    have : ¬ (0 : Int64).toInt ≤ d.toInt := fun q => e (Int64.le_iff_toInt_le.mpr q)
    have z : (0 : Int64).toInt = 0 := rfl
    exact Or.inr ⟨by decide, by omega⟩
/-- sg is the sign, be the divisor, X the numbers of the corner -/
theorem cand_r (hq : pq_ok lo hi co (fun i j => wt (4 * i + j)) bd n k) (hre : re_ok w re rs n) (hfx : fz_ok w lo hi n fx) (hp : ic_ok rs (2 * rs + k) p) (hrs : 1 ≤ rs ∧ rs ≤ 4) (h0 : ¬ dd_f (mk_R lo hi wt bd fx re rs n) p (-1) rs = 0) {be : Int64} (hbe : be = cq_b (mk_R lo hi wt bd fx re rs n) rs p) {tr : Nat → Int64} (htr : tr = ct_f (mk_R lo hi wt bd fx re rs n) p re rs (sl_f (dd_f (mk_R lo hi wt bd fx re rs n) p (-1) rs)) (fun j => fx j * cq_b (mk_R lo hi wt bd fx re rs n) rs p) rs) :
    ∃ sg : Int, (sg = 1 ∨ sg = -1) ∧ be.toInt = sg * xd_f rs (ra_f lo hi wt bd fx re rs n p) ∧ (0 < be.toInt ∧ be.toInt ≤ 162009) ∧ ¬ xd_f rs (ra_f lo hi wt bd fx re rs n p) = 0 ∧ (∀ c, c < rs → (tr (re c)).toInt = sg * xd_f rs (rc_f (ra_f lo hi wt bd fx re rs n p) (rb_f lo hi wt bd fx re rs n p) c)) ∧ (∀ j, j < n → w j → (tr j).toInt = (fx j).toInt * be.toInt) ∧ ∀ j, j < n → (tr j).toInt.natAbs ≤ 30000000000000 := by
  obtain ⟨d1, d2⟩ := dd_1 (fx := fx) hq hre hp hrs
  have dne := i6_ne h0
  have hsl := sl_int dne
  have hb : be.toInt = (dd_f (mk_R lo hi wt bd fx re rs n) p (-1) rs).toInt * (sl_f (dd_f (mk_R lo hi wt bd fx re rs n) p (-1) rs)).toInt := by
    rw [hbe]; unfold cq_b
    exact i6_mul (a := 162009) (b := 1) (by rw [d1]; exact d2) (by omega) (by decide)
  rw [d1] at hb dne hsl
  have hbb : 0 < be.toInt ∧ be.toInt ≤ 162009 := by
    rcases hsl with ⟨z1, z2⟩ | ⟨z1, z2⟩ <;> rw [hb, z1] <;> omega
  have hat := ct_at (RW := mk_R lo hi wt bd fx re rs n) (p := p) (sl := sl_f (dd_f (mk_R lo hi wt bd fx re rs n) p (-1) rs)) (ta := fun j => fx j * cq_b (mk_R lo hi wt bd fx re rs n) rs p) hre rs (Nat.le_refl _)
  have hy : ∀ c, c < rs → (tr (re c)).toInt = (sl_f (dd_f (mk_R lo hi wt bd fx re rs n) p (-1) rs)).toInt * xd_f rs (rc_f (ra_f lo hi wt bd fx re rs n p) (rb_f lo hi wt bd fx re rs n p) c) := fun c hc => by
    obtain ⟨y1, y2⟩ := dd_2 hq hre hfx hp hrs hc
    rw [htr, hat.1 c hc, i6_mul (a := 30000000000000) (b := 1) (by rw [y1]; exact y2) (by omega) (by decide), y1, Int.mul_comm]
  have hwj : ∀ j, j < n → w j → (tr j).toInt = (fx j).toInt * be.toInt := fun j hj hw => by
    rw [htr, hat.2 j (fun c hc e => (hre.1 c hc).2 (e ▸ hw)), ← hbe]
    exact i6_mul (a := 20) (b := 162009) (fzb_20 hq hfx hj) (by omega) (by decide)
  refine ⟨(sl_f (dd_f (mk_R lo hi wt bd fx re rs n) p (-1) rs)).toInt, ?_, by rw [hb, Int.mul_comm], hbb, dne, hy, hwj, fun j hj => ?_⟩
  · rcases hsl with ⟨z1, -⟩ | ⟨z1, -⟩
    · exact Or.inl z1
    · exact Or.inr z1
  · by_cases h : w j
    · rw [hwj j hj h]
      have := nb_m (fzb_20 hq hfx hj) (show be.toInt.natAbs ≤ 162009 by omega)
      omega
    · obtain ⟨c, hc, e⟩ := hre.2.2 j hj h
      rw [← e, hy c hc]
      have y2 := (dd_2 hq hre hfx hp hrs hc).2
      rcases hsl with ⟨z1, -⟩ | ⟨z1, -⟩ <;> rw [z1] <;> omega
end RA
