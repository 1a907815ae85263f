/-! the law's cases in pure terms: total, plan, prove, solve; what is left to mathematics is lj_Ha and lj_Hb -/
/-- both searches find the same: whether there is a plan, and the same cost and the same plan, as reduced fractions -/
def lj_Ha : Prop := ∀ (zp : lj_P) (zs : lj_S) (yp : lj_Q) (ys : lj_V), jp_ok zp yp → (zs.2.1 = 0 ∨ zs.2.1 = 1) → jc_ok zp zs → jm_ok yp ys zs.2.1 → zs.2.2.1 = ys.2.1 ∧ (¬ zs.2.2.1 = 0 → ¬ ys.2.2.1 = 0 ∧ ∀ wv r : Int32, (wv = 0 ∨ wv = 1) → (pt_ok ys.2.2.2.1 ys.2.2.1 wv r → r = pt_f zs.2.2.2.2.1 zs.2.2.2.1 wv) ∧ ∀ j, j < zp.1 → pt_ok (ys.2.2.2.2 j) ys.2.2.1 wv r → r = pt_f (zs.2.2.2.2.2.1 j) zs.2.2.2.1 wv)
/-- the class's own proof holds for what its search has found -/
def lj_Hb : Prop := ∀ (zp : lj_P) (zs : lj_S) (yp : lj_Q), jp_ok zp yp → zs.2.1 = 0 → jc_ok zp zs → ∀ (bl bm : Nat → Int32) (gs : gt_T) (R : Nat → Int64) (num : Nat → Int32), cp_ok bl zp.2.2.1 4 → cp_ok bm zp.2.2.2.1 4 →
  gs = fl_g (gr_f zs.2.2.2.2.2.2 zp.2.2.2.2.2.1 zp.2.2.2.2.2.2.1 zp.2.2.2.2.2.2.2 zp.2.1 (th_f zs.2.2.1 zp.2.1)) (2 ^ zp.1) (0, R, num) → ps_ok (he_ok gs.2.1 gs.1 zp.1 zs.2.2.2.2.1.toInt64 zs.2.2.2.1.toInt64) (fun x8 y8 => (wi_f zp.2.2.2.2.1 x8 y8 zp.1).1) zp.1 33 bl bm
section TP
variable {zp : lj_P} {zt : lj_T} {zs : lj_S} {yp : lj_Q} {yt : lj_U} {ys : lj_V}
theorem sv_ne {lv : Int32} : ¬ sv_f lv = 0 := by
  unfold sv_f
  by_cases h : lv = 0
  · rw [if_pos h]; decide
  · rw [if_neg h]; decide
theorem jj_yes (Ha : lj_Ha) (h : lj_JJ zp zt zs yp yt ys) (ho : ¬ zs.1 = 0 ∧ ¬ zs.2.2.1 = 0) : ¬ ys.1 = 0 ∧ ¬ ys.2.1 = 0 := by
  obtain ⟨a1, a2, a3⟩ := h.2.2
  obtain ⟨b1, b2, b3, b4⟩ := a3 ho.1
  have c := Ha zp zs yp ys h.1 b1 b3 b4
  refine ⟨?_, fun q => ho.2 (c.1.trans q)⟩
  rw [a2, if_neg ho.1]; exact sv_ne
theorem jj_pt (Ha : lj_Ha) (h : lj_JJ zp zt zs yp yt ys) (ho : ¬ zs.1 = 0 ∧ ¬ zs.2.2.1 = 0) : ¬ ys.2.2.1 = 0 ∧ ∀ wv r : Int32, (wv = 0 ∨ wv = 1) → (pt_ok ys.2.2.2.1 ys.2.2.1 wv r → r = pt_f zs.2.2.2.2.1 zs.2.2.2.1 wv) ∧ ∀ j, j < zp.1 → pt_ok (ys.2.2.2.2 j) ys.2.2.1 wv r → r = pt_f (zs.2.2.2.2.2.1 j) zs.2.2.2.1 wv := by
  obtain ⟨b1, b2, b3, b4⟩ := h.2.2.2.2 ho.1
  exact (Ha zp zs yp ys h.1 b1 b3 b4).2 ho.2
theorem jj_no (Ha : lj_Ha) (h : lj_JJ zp zt zs yp yt ys) (ho : ¬ (¬ zs.1 = 0 ∧ ¬ zs.2.2.1 = 0)) : ¬ (¬ ys.1 = 0 ∧ ¬ ys.2.1 = 0) := by
  intro q
  obtain ⟨a1, a2, a3⟩ := h.2.2
  have z : ¬ zs.1 = 0 := fun e => q.1 (by rw [a2, if_pos e])
  obtain ⟨b1, b2, b3, b4⟩ := a3 z
  exact ho ⟨z, fun e => q.2 ((Ha zp zs yp ys h.1 b1 b3 b4).1.symm.trans e)⟩
theorem jj_s1 (h : lj_JJ zp zt zs yp yt ys) (ho : ¬ zs.1 = 0 ∧ zs.2.1 = 0) : ys.1 = 1 := by
  rw [h.2.2.2.1, if_neg ho.1]; unfold sv_f; rw [if_pos ho.2]
theorem jj_s0 (h : lj_JJ zp zt zs yp yt ys) (ho : ¬ (¬ zs.1 = 0 ∧ zs.2.1 = 0)) : ¬ ys.1 = 1 := by
  intro q
  have a2 := h.2.2.2.1
  by_cases z : zs.1 = 0
  · rw [if_pos z] at a2
    rw [a2] at q
    exact absurd q (by decide)
  · rw [if_neg z] at a2
    unfold sv_f at a2
    rw [if_neg (fun e => ho ⟨z, e⟩)] at a2
    rw [a2] at q
    exact absurd q (by decide)
theorem ja_i {lo hi wh co : Int32} (h : ja_ok lo hi wh co) : (-20 ≤ lo.toInt ∧ lo.toInt ≤ hi.toInt ∧ hi.toInt ≤ 20) ∧ (hi - lo).toInt = hi.toInt - lo.toInt := by
  obtain ⟨⟨a1, a2⟩, a3, -⟩ := h
  have b1 := Int32.le_iff_toInt_le.mp a1.1
  have b2 := Int32.le_iff_toInt_le.mp a2.2
  have b3 : ¬ hi.toInt < lo.toInt := fun q => a3 (Int32.lt_iff_toInt_lt.mpr q)
  have c1 : (-20 : Int32).toInt = -20 := by decide
  have c2 : (20 : Int32).toInt = 20 := by decide
  rw [c1] at b1
  rw [c2] at b2
  refine ⟨⟨b1, by omega, b2⟩, ?_⟩
  rw [Int32.toInt_sub]
  exact Int.bmod_eq_of_le (by omega) (by omega)
theorem jw_at {lo hi wh co : Nat → Int32} {j : Nat} (h : ja_ok (lo j) (hi j) (wh j) (co j)) : hi j - lo j = nI (jw_d lo hi j) ∧ jw_d lo hi j ≤ 40 ∧ (hi j).toInt = (lo j).toInt + jw_d lo hi j := by
  obtain ⟨a, b⟩ := ja_i h
  have h0 : ¬ (hi j - lo j) < 0 := fun q => by
    have := Int32.lt_iff_toInt_lt.mp q
    have c : (0 : Int32).toInt = 0 := rfl
    omega
  obtain ⟨t, ht, e⟩ := nI_of h0
  have hc : jw_d lo hi j = t := by unfold jw_d; rw [e]; exact nI_clamp ht
  have hi' : (hi j - lo j).toInt = t := by rw [e]; exact nI_toInt ht
  rw [hc]
  exact ⟨e, by omega, by omega⟩
theorem jw_ok (h : jp_ok zp yp) : ∀ j9, j9 < zp.1 → zp.2.2.2.1 j9 - zp.2.2.1 j9 = nI (jw_d zp.2.2.1 zp.2.2.2.1 j9) ∧ jw_d zp.2.2.1 zp.2.2.2.1 j9 ≤ 40 := fun j hj => by
  have a := jw_at (h.2.2.2.2.1 j (by have := h.1; omega)).1
  exact ⟨a.1, a.2.1⟩
theorem jw_b (h : jp_ok zp yp) : wb_ok yp.2.2.1 yp.2.2.2.1 (jw_d yp.2.2.1 yp.2.2.2.1) yp.1 := fun j hj => by
  have h4 : j < 4 := by have := h.1; have := h.2.2.1; omega
  obtain ⟨a, b1, b2, b3, b4⟩ := h.2.2.2.2.1 j h4
  have c := jw_at a
  have d := ja_i a
  have e : jw_d yp.2.2.1 yp.2.2.2.1 j = jw_d zp.2.2.1 zp.2.2.2.1 j := by unfold jw_d; rw [b1, b2]
  rw [e, b1, b2]
  exact ⟨c.2.2, c.2.1, by omega, by omega⟩
theorem jj_solve (h : lj_JJ zp zt zs yp yt ys) {lv : Int32} (hlv : lv = 0 ∨ lv = 1) {vals1 : Nat → Int32} {sg1 : sg_T} {se best rests trial : Nat → Int32} (hf : fs_ok sg1) (hm : mn_part vals1 zp.2.2.2.2.2.1 zp.2.2.2.2.2.2.1 zp.2.1 (2 ^ zp.1) 1)
    (hs : sg1 = st_f zp.2.2.1 zp.2.2.2.1 zp.2.2.2.2.1 zp.2.2.2.2.2.1 zp.2.2.2.2.2.2.1 zp.2.2.2.2.2.2.2 vals1 lv (jw_d zp.2.2.1 zp.2.2.2.1) zp.1 zp.2.1 (zp.1 + 1) 0 0 (ls_f zp.2.2.1 zp.2.2.2.1 zp.2.2.2.2.2.1 zp.1) (mx_f zp.2.2.1 se zp.1) (0, best, 1, 0, rests, trial))
    {ms1 : mt_T} {bst0 : Nat → Int64} {bb0 bc0 : Int64} {rsv : Nat → Int32} {rs : Nat}
    (hM : ∃ (re : Nat → Nat) (F : List (Nat → Int64)), rr_ok yp.2.2.2.2.1 lv rsv re rs yp.1 ∧ vd_all yp.2.2.2.2.1 lv yp.2.2.1 (jw_d yp.2.2.1 yp.2.2.2.1) yp.1 F ∧ ch_ok yp.2.2.1 yp.2.2.2.1 yp.2.2.2.2.2.2.1 yp.2.2.2.2.2.2.2 yp.2.2.2.2.2.1 yp.1 yp.2.1 re rs F (0, bst0, bb0, bc0) ms1) :
    lj_JJ zp zt (1, lv, sg1.1, sg1.2.2.1, sg1.2.2.2.1, sg1.2.1, vals1) yp yt (sv_f lv, ms1.1, ms1.2.2.1, ms1.2.2.2, ms1.2.1) := by
  refine ⟨h.1, h.2.1, Or.inr rfl, (if_neg (show ¬ (1 : Int32) = 0 by decide)).symm, fun _ => ⟨hlv, hf, ⟨hm, se, best, rests, trial, sg1.2.2.2.2.1, sg1.2.2.2.2.2, hs⟩, ?_⟩⟩
  obtain ⟨re, F, a, b, c⟩ := hM
  exact ⟨bst0, bb0, bc0, rsv, rs, re, F, a, b, c⟩
theorem jj_same (Ha : lj_Ha) (h : lj_JJ zp zt zs yp yt ys) (h1 : ¬ zs.1 = 0) : zs.2.2.1 = ys.2.1 := by
  obtain ⟨b1, b2, b3, b4⟩ := h.2.2.2.2 h1
  exact (Ha zp zs yp ys h.1 b1 b3 b4).1
theorem jj_prove (Hb : lj_Hb) (h : lj_JJ zp zt zs yp yt ys) (ho : ¬ zs.1 = 0 ∧ zs.2.1 = 0) {bl bm : Nat → Int32} {gs : gt_T} {R : Nat → Int64} {num : Nat → Int32} (hb : cp_ok bl zp.2.2.1 4 ∧ cp_ok bm zp.2.2.2.1 4)
    (hg : gs = fl_g (gr_f zs.2.2.2.2.2.2 zp.2.2.2.2.2.1 zp.2.2.2.2.2.2.1 zp.2.2.2.2.2.2.2 zp.2.1 (th_f zs.2.2.1 zp.2.1)) (2 ^ zp.1) (0, R, num)) : ps_ok (he_ok gs.2.1 gs.1 zp.1 zs.2.2.2.2.1.toInt64 zs.2.2.2.1.toInt64) (fun x8 y8 => (wi_f zp.2.2.2.2.1 x8 y8 zp.1).1) zp.1 33 bl bm := by
  obtain ⟨b1, b2, b3, b4⟩ := h.2.2.2.2 ho.1
  exact Hb zp zs yp h.1 ho.2 b3 bl bm gs R num hb.1 hb.2 hg
end TP
