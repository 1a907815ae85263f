/-! the law's cases in pure terms: amount, clear, limit, drop, fork, end -/
section JJ2
variable {n j : Nat} {jv ls ms wv so : Int32} {lo hi wh : Nat → Int32} {am1 : am_T}
theorem am_good (hn : n ≤ 4) (hj : j < n) (he : jv = nI j) (hok : ag_ok ls ms wv) (q : am1 = am_f n jv ls ms wv lo hi wh so) : am1 = (0, upd lo j ls, upd hi j ms, upd wh j wv, 0) := by
  obtain ⟨a, b⟩ := in_idx hn hj he
  rw [q]; unfold am_f
  rw [ci_t a, ci_t hok, b]
theorem am_bad1 (hn : 1 ≤ n ∧ n ≤ 4) (h : ¬ (0 ≤ jv ∧ jv < nI n)) (q : am1 = am_f n jv ls ms wv lo hi wh so) : am1 = (1, lo, hi, wh, so) := by rw [q]; exact ci_n (no_idx hn h)
theorem am_bad2 (hn : n ≤ 4) (hj : j < n) (he : jv = nI j) (hok : ¬ ag_ok ls ms wv) (q : am1 = am_f n jv ls ms wv lo hi wh so) : am1 = (2, lo, hi, wh, so) := by
  rw [q]; exact (ci_t (in_idx hn hj he).1).trans (ci_n hok)
end JJ2
theorem sp_node (x : Int32) : (∃ nd, nd < 40 ∧ x = nI nd) ∨ ¬ nd_ok x := by
  by_cases h : nd_ok x
  · exact Or.inl ⟨_, (nd_nat h).2, (nd_nat h).1⟩
  · exact Or.inr h
theorem nd_of {x : Int32} {nd : Nat} (h : nd < 40) (e : x = nI nd) : nd_ok x := by subst e; exact ⟨nI_le (a := 0) (Nat.zero_le _) (by omega), nI_lt (b := 40) h (by decide)⟩
theorem cl_good {nv : Int32} {nd : Nat} {kd : Nat → Int32} {z1 : Int32 × (Nat → Int32)} (h : nd < 40) (e : nv = nI nd) (q : z1 = ci_f (nd_ok nv) (0, upd kd nv.toNatClampNeg 0) (1, kd)) : z1 = (0, upd kd nd 0) := by
  rw [q, ci_t (nd_of h e), e, nI_clamp (by omega)]
theorem cl_bad {nv : Int32} {kd : Nat → Int32} {z1 : Int32 × (Nat → Int32)} (h : ¬ nd_ok nv) (q : z1 = ci_f (nd_ok nv) (0, upd kd nv.toNatClampNeg 0) (1, kd)) : z1 = (1, kd) := by rw [q, ci_n h]
theorem no_idxk {k : Nat} {x : Int32} (hk : k ≤ 6) (h : ¬ (0 ≤ x ∧ x < nI k)) : ¬ in_ok x 0 (nI k - 1) := by
  intro q
  rcases Nat.eq_zero_or_pos k with rfl | hp
  · have a := Int32.le_iff_toInt_le.mp q.1
    have b := Int32.le_iff_toInt_le.mp q.2
    have c : (0 : Int32).toInt = 0 := rfl
    have d : (nI 0 - 1 : Int32).toInt = -1 := by decide
    omega
  · have e : nI k - 1 = nI (k - 1) := by
      obtain ⟨t, rfl⟩ : ∃ t, k = t + 1 := ⟨k - 1, by omega⟩
      exact nI_pred t
    rw [e] at q
    obtain ⟨e1, h1⟩ := in_nat (n := k - 1) (by omega) q
    refine h ⟨q.1, ?_⟩
    rw [e1]
    exact nI_lt (by omega) (by omega)
theorem lj_o0 {ov : Nat → Int64} {x : Int64} : vp_updL ov 0 x 0 = x := by simp [vp_updL]
section JJ3
variable {zp : lj_P} {zt : lj_T} {zs : lj_S} {yp : lj_Q} {yt : lj_U} {ys : lj_V}
theorem jj_amount (h : lj_JJ zp zt zs yp yt ys) {j : Nat} {ls ms wv : Int32} (hj : j < zp.1) (hw : wv = 0 ∨ wv = 1) (hok : ag_ok ls ms wv) {am1 : am_T} (hz : am1 = (0, upd yp.2.2.1 j ls, upd yp.2.2.2.1 j ms, upd yp.2.2.2.2.1 j wv, 0)) :
    lj_JJ (zp.1, zp.2.1, upd zp.2.2.1 j ls, upd zp.2.2.2.1 j ms, upd zp.2.2.2.2.1 j wv, zp.2.2.2.2.2.1, zp.2.2.2.2.2.2.1, zp.2.2.2.2.2.2.2) zt (0, zs.2) (yp.1, yp.2.1, am1.2.1, am1.2.2.1, am1.2.2.2.1, yp.2.2.2.2.2.1, yp.2.2.2.2.2.2.1, yp.2.2.2.2.2.2.2) yt (am1.2.2.2.2, ys.2) := by
  subst hz
  obtain ⟨⟨h1, h2, h3, h4, h5, h6⟩, ht, -⟩ := h
  refine ⟨⟨h1, h2, h3, h4, fun i hi => ?_, h6⟩, ht, js_0⟩
  obtain ⟨⟨a1, a2, a3, a4, a5⟩, b1, b2, b3, b4⟩ := h5 i hi
  dsimp only
  by_cases e : i = j
  · subst e
    rw [pk_us, pk_us, pk_us, pk_us, pk_us, pk_us]
    exact ⟨⟨hok.1, hok.2.1, hw, hok.2.2, a5⟩, rfl, rfl, rfl, b4⟩
  · rw [pk_un e, pk_un e, pk_un e, pk_un e, pk_un e, pk_un e]
    exact ⟨⟨a1, a2, a3, a4, a5⟩, b1, b2, b3, b4⟩
theorem jj_amount0 (h : lj_JJ zp zt zs yp yt ys) {t : Int32} {am1 : am_T} (hz : am1 = (t, yp.2.2.1, yp.2.2.2.1, yp.2.2.2.2.1, ys.1)) :
    lj_JJ zp zt zs (yp.1, yp.2.1, am1.2.1, am1.2.2.1, am1.2.2.2.1, yp.2.2.2.2.2.1, yp.2.2.2.2.2.2.1, yp.2.2.2.2.2.2.2) yt (am1.2.2.2.2, ys.2) := by
  subst hz; exact h
theorem jj_clear (h : lj_JJ zp zt zs yp yt ys) {nd : Nat} (hnd : nd < 40) {z1 : Int32 × (Nat → Int32)} (hz : z1 = (0, upd yt.1 nd 0)) :
    lj_JJ zp (upd zt.1 nd 0, zt.2) zs yp (z1.2, yt.2) ys := by
  subst hz
  refine ⟨h.1, ⟨fun x hx => ?_, h.2.1.2⟩, h.2.2⟩
  obtain ⟨a1, a2, a3, a4, a5, a6, a7⟩ := h.2.1.1 x hx
  dsimp only
  by_cases e : x = nd
  · subst e
    rw [pk_us, pk_us]
    exact ⟨Or.inl rfl, rfl, a3, a4, a5, a6, fun q => absurd q (by decide)⟩
  · rw [pk_un e, pk_un e]
    exact ⟨a1, a2, a3, a4, a5, a6, a7⟩
theorem jj_clear0 (h : lj_JJ zp zt zs yp yt ys) {t : Int32} {z1 : Int32 × (Nat → Int32)} (hz : z1 = (t, yt.1)) : lj_JJ zp zt zs yp (z1.2, yt.2) ys := by subst hz; exact h
theorem jj_limit (h : lj_JJ zp zt zs yp yt ys) {x0 x1 x2 x3 bo : Int32} (hq : lw_ok zp.1 x0 x1 x2 x3 bo 4) (hk : ¬ zp.2.1 = 6) {M1 : Nat → Nat → Int32} (hM : ∀ a9 c9, c9 < 4 → M1 a9 c9 = if a9 = zp.2.1 then pk_f c9 x0 x1 x2 x3 else zp.2.2.2.2.2.2.1 a9 c9) :
    lj_JJ (zp.1, zp.2.1 + 1, zp.2.2.1, zp.2.2.2.1, zp.2.2.2.2.1, zp.2.2.2.2.2.1, M1, upd zp.2.2.2.2.2.2.2 zp.2.1 bo) zt (0, zs.2) (yp.1, yp.2.1 + 1, yp.2.2.1, yp.2.2.2.1, yp.2.2.2.2.1, yp.2.2.2.2.2.1, lm_w yp.2.2.2.2.2.2.1 yp.2.1 x0 x1 x2 x3 4, upd yp.2.2.2.2.2.2.2 yp.2.1 bo) yt (0, ys.2) := by
  obtain ⟨⟨h1, h2, h3, h4, h5, h6⟩, ht, -⟩ := h
  refine ⟨⟨h1, by dsimp only; omega, h3, by dsimp only; omega, h5, fun i hi => ?_⟩, ht, js_0⟩
  dsimp only at hi ⊢
  by_cases e : i = zp.2.1
  · subst e
    refine ⟨fun j hj => ?_, ?_, ?_⟩
    · rw [hM _ _ hj, if_pos rfl]
      refine ⟨(hq.2 j hj).1, (hq.2 j hj).2, ?_⟩
      unfold lm_w
      rw [h4, if_pos (by omega)]
      congr 1
      omega
    · rw [pk_us]; exact hq.1
    · rw [h4, pk_us, pk_us]
  · obtain ⟨a1, a2, a3⟩ := h6 i (by omega)
    refine ⟨fun j hj => ?_, ?_, ?_⟩
    · rw [hM _ _ hj, if_neg e]
      refine ⟨(a1 j hj).1, (a1 j hj).2.1, ?_⟩
      unfold lm_w
      rw [h4, if_neg (by omega)]
      exact (a1 j hj).2.2
    · rw [pk_un e]; exact a2
    · rw [h4, pk_un e, pk_un e]; exact a3
theorem jj_drop (h : lj_JJ zp zt zs yp yt ys) {i1 : Nat} (hi1 : i1 < zp.2.1) {M1 : Nat → Nat → Int32} {bd1 : Nat → Int32} (hM : rl_ok zp.2.2.2.2.2.2.1 M1 zp.2.2.2.2.2.2.2 bd1 i1 (zp.2.1 - 1)) :
    lj_JJ (zp.1, zp.2.1 - 1, zp.2.2.1, zp.2.2.2.1, zp.2.2.2.2.1, zp.2.2.2.2.2.1, M1, bd1) zt (0, zs.2) (yp.1, yp.2.1 - 1, yp.2.2.1, yp.2.2.2.1, yp.2.2.2.2.1, yp.2.2.2.2.2.1, dr_w yp.2.2.2.2.2.2.1 i1 (4 * (yp.2.1 - 1)), dr_b yp.2.2.2.2.2.2.2 i1 (yp.2.1 - 1)) yt (0, ys.2) := by
  obtain ⟨⟨h1, h2, h3, h4, h5, h6⟩, ht, -⟩ := h
  refine ⟨⟨h1, by dsimp only; omega, h3, by dsimp only; omega, h5, fun i hi => ?_⟩, ht, js_0⟩
  dsimp only at hi ⊢
  rw [hM.2 i]
  unfold dr_w dr_b
  rw [h4]
  by_cases e : i1 ≤ i
  · obtain ⟨a1, a2, a3⟩ := h6 (i + 1) (by omega)
    rw [if_pos ⟨e, by omega⟩, if_pos ⟨e, by omega⟩]
    refine ⟨fun j hj => ?_, a2, a3⟩
    rw [hM.1 _ _ hj, if_pos ⟨e, by omega⟩, if_pos ⟨by omega, by omega⟩]
    refine ⟨(a1 j hj).1, (a1 j hj).2.1, ?_⟩
    rw [← (a1 j hj).2.2]
    exact congrArg yp.2.2.2.2.2.2.1 (by omega)
  · obtain ⟨a1, a2, a3⟩ := h6 i (by omega)
    rw [if_neg (by omega), if_neg (by omega)]
    refine ⟨fun j hj => ?_, a2, a3⟩
    rw [hM.1 _ _ hj, if_neg (by omega), if_neg (by omega)]
    exact a1 j hj
end JJ3
section JJ4
variable {nv jv xv f1 f2 : Int32} {nd c1 c2 : Nat} {fs fs1 : fk_T}
theorem fk_bad1 (h : ¬ ft_ok nv f1 f2) (q : fs1 = fk_f nv jv xv f1 f2 fs) : fs1 = (1, fs.2) := by rw [q]; exact ci_n h
theorem fk_bad2 (h : ft_ok nv f1 f2) (hq : ¬ (in_ok jv 0 3 ∧ in_ok xv (-20) 20)) (q : fs1 = fk_f nv jv xv f1 f2 fs) : fs1 = (2, fs.2) := by rw [q]; exact (ci_t h).trans (ci_n hq)
theorem ft_no (hnd : nd < 40) (h1 : c1 < 40) (h2 : c2 < 40) (e : nv = nI nd) (e1 : f1 = nI c1) (e2 : f2 = nI c2) (h : c1 ≤ nd ∨ c2 ≤ nd) : ¬ ft_ok nv f1 f2 := by
  subst e; subst e1; subst e2
  intro q
  rcases h with h | h
  · exact q.2.1 (nI_le h (by omega))
  · exact q.2.2 (nI_le h (by omega))
theorem ft_yes (hnd : nd < 40) (h1 : c1 < 40) (h2 : c2 < 40) (e : nv = nI nd) (e1 : f1 = nI c1) (e2 : f2 = nI c2) (h : ¬ (c1 ≤ nd ∨ c2 ≤ nd)) : ft_ok nv f1 f2 := by
  refine ⟨⟨nd_of hnd e, nd_of h1 e1, nd_of h2 e2⟩, fun q => h (Or.inl ?_), fun q => h (Or.inr ?_)⟩
  · subst e; subst e1; exact (nI_leI (by omega) (by omega)).mp q
  · subst e; subst e2; exact (nI_leI (by omega) (by omega)).mp q
theorem fk_good (hnd : nd < 40) (e : nv = nI nd) (h : ft_ok nv f1 f2) (hq : in_ok jv 0 3 ∧ in_ok xv (-20) 20) (e1 : f1 = nI c1) (e2 : f2 = nI c2) (q : fs1 = fk_f nv jv xv f1 f2 fs) : fs1 = (0, upd fs.2.1 nd 1, upd fs.2.2.1 nd jv, upd fs.2.2.2.1 nd xv, upd fs.2.2.2.2.1 nd (nI c1), upd fs.2.2.2.2.2 nd (nI c2)) := by
  have hcl : nv.toNatClampNeg = nd := by rw [e]; exact nI_clamp (by omega)
  rw [q]
  unfold fk_f
  rw [ci_t h, ci_t hq, hcl, e1, e2]
end JJ4
section JJ5
variable {zp : lj_P} {zt : lj_T} {zs : lj_S} {yp : lj_Q} {yt : lj_U} {ys : lj_V}
theorem jj_fork0 (h : lj_JJ zp zt zs yp yt ys) {t t0 : Int32} {fs1 : fk_T} (hz : fs1 = (t, (t0, yt.1, yt.2.1, yt.2.2.1, yt.2.2.2.1, yt.2.2.2.2.1).2)) : lj_JJ zp zt zs yp (fs1.2.1, fs1.2.2.1, fs1.2.2.2.1, fs1.2.2.2.2.1, fs1.2.2.2.2.2, yt.2.2.2.2.2) ys := by subst hz; exact h
theorem jj_fork (h : lj_JJ zp zt zs yp yt ys) {nd c1 c2 : Nat} {jv xv : Int32} (hnd : nd < 40) (h1 : c1 < 40) (h2 : c2 < 40) (hlt : ¬ (c1 ≤ nd ∨ c2 ≤ nd)) (hok : in_ok jv 0 3 ∧ in_ok xv (-20) 20) {t0 : Int32} {fs1 : fk_T}
    (hz : fs1 = (0, upd (t0, yt.1, yt.2.1, yt.2.2.1, yt.2.2.2.1, yt.2.2.2.2.1).2.1 nd 1, upd (t0, yt.1, yt.2.1, yt.2.2.1, yt.2.2.2.1, yt.2.2.2.2.1).2.2.1 nd jv, upd (t0, yt.1, yt.2.1, yt.2.2.1, yt.2.2.2.1, yt.2.2.2.2.1).2.2.2.1 nd xv, upd (t0, yt.1, yt.2.1, yt.2.2.1, yt.2.2.2.1, yt.2.2.2.2.1).2.2.2.2.1 nd (nI c1), upd (t0, yt.1, yt.2.1, yt.2.2.1, yt.2.2.2.1, yt.2.2.2.2.1).2.2.2.2.2 nd (nI c2))) :
    lj_JJ zp (upd zt.1 nd 1, upd zt.2.1 nd jv, upd zt.2.2.1 nd xv, upd zt.2.2.2.1 nd (nI c1), upd zt.2.2.2.2.1 nd (nI c2), zt.2.2.2.2.2) zs yp (fs1.2.1, fs1.2.2.1, fs1.2.2.2.1, fs1.2.2.2.2.1, fs1.2.2.2.2.2, yt.2.2.2.2.2) ys := by
  subst hz
  refine ⟨h.1, ⟨fun x hx => ?_, h.2.1.2⟩, h.2.2⟩
  obtain ⟨a1, a2, a3, a4, a5, a6, a7⟩ := h.2.1.1 x hx
  dsimp only
  by_cases e : x = nd
  · subst e
    rw [pk_us, pk_us, pk_us, pk_us, pk_us, pk_us, pk_us, pk_us, pk_us, pk_us]
    exact ⟨Or.inr (Or.inl rfl), rfl, ⟨hok.1, rfl⟩, ⟨hok.2, rfl⟩, ⟨nd_of h1 rfl, rfl⟩, ⟨nd_of h2 rfl, rfl⟩, fun _ => ⟨nI_lt (by omega) (by omega), nI_lt (by omega) (by omega)⟩⟩
  · rw [pk_un e, pk_un e, pk_un e, pk_un e, pk_un e, pk_un e, pk_un e, pk_un e, pk_un e, pk_un e]
    exact ⟨a1, a2, a3, a4, a5, a6, a7⟩
theorem pe_at {en : Nat → Int32} {nd : Nat} {x0 x1 x2 x3 x4 x5 x6 : Int32} (y : Nat) : pe_f en nd x0 x1 x2 x3 x4 x5 x6 y = if 7 * nd ≤ y ∧ y < 7 * nd + 7 then p7_f (y - 7 * nd) x0 x1 x2 x3 x4 x5 x6 else en y := by
  unfold pe_f
  by_cases h : 7 * nd ≤ y ∧ y < 7 * nd + 7
  · rw [if_pos h]
    rcases (show y = 7 * nd ∨ y = 7 * nd + 1 ∨ y = 7 * nd + 2 ∨ y = 7 * nd + 3 ∨ y = 7 * nd + 4 ∨ y = 7 * nd + 5 ∨ y = 7 * nd + 6 by omega) with e | e | e | e | e | e | e <;> subst e
    · rw [pk_un (by omega), pk_un (by omega), pk_un (by omega), pk_un (by omega), pk_un (by omega), pk_un (by omega), show nd * 7 = 7 * nd by omega, pk_us, show 7 * nd - 7 * nd = 0 by omega]; rfl
    · rw [pk_un (by omega), pk_un (by omega), pk_un (by omega), pk_un (by omega), pk_un (by omega), show nd * 7 + 1 + 0 = 7 * nd + 1 by omega, pk_us, show 7 * nd + 1 - 7 * nd = 1 by omega]; rfl
    · rw [pk_un (by omega), pk_un (by omega), pk_un (by omega), pk_un (by omega), show nd * 7 + 1 + 0 + 1 = 7 * nd + 2 by omega, pk_us, show 7 * nd + 2 - 7 * nd = 2 by omega]; rfl
    · rw [pk_un (by omega), pk_un (by omega), pk_un (by omega), show nd * 7 + 1 + 0 + 2 = 7 * nd + 3 by omega, pk_us, show 7 * nd + 3 - 7 * nd = 3 by omega]; rfl
    · rw [pk_un (by omega), pk_un (by omega), show nd * 7 + 1 + 3 = 7 * nd + 4 by omega, pk_us, show 7 * nd + 4 - 7 * nd = 4 by omega]; rfl
    · rw [pk_un (by omega), show nd * 7 + 1 + 3 + 1 = 7 * nd + 5 by omega, pk_us, show 7 * nd + 5 - 7 * nd = 5 by omega]; rfl
    · rw [show nd * 7 + 1 + 3 + 2 = 7 * nd + 6 by omega, pk_us, show 7 * nd + 6 - 7 * nd = 6 by omega]; rfl
  · rw [if_neg h]
    rw [pk_un (by omega), pk_un (by omega), pk_un (by omega), pk_un (by omega), pk_un (by omega), pk_un (by omega), pk_un (by omega)]
theorem jj_end (h : lj_JJ zp zt zs yp yt ys) {nd : Nat} {x0 x1 x2 x3 x4 x5 x6 : Int32} (hnd : nd < 40) (hok : eg_ok x0 x1 x2 x3 x4 x5 x6 7) {en1 : Nat → Int32} (hz : en1 = pe_f zt.2.2.2.2.2 nd x0 x1 x2 x3 x4 x5 x6) :
    lj_JJ zp (upd zt.1 nd 2, zt.2.1, zt.2.2.1, zt.2.2.2.1, zt.2.2.2.2.1, en1) zs yp (upd yt.1 nd 2, yt.2.1, yt.2.2.1, yt.2.2.2.1, yt.2.2.2.2.1, ew_f yt.2.2.2.2.2 nd x0 x1 x2 x3 x4 x5 x6 7) ys := by
  subst hz
  refine ⟨h.1, ⟨fun x hx => ?_, fun y hy => ?_⟩, h.2.2⟩
  · obtain ⟨a1, a2, a3, a4, a5, a6, a7⟩ := h.2.1.1 x hx
    dsimp only
    by_cases e : x = nd
    · subst e
      rw [pk_us, pk_us]
      exact ⟨Or.inr (Or.inr rfl), rfl, a3, a4, a5, a6, fun q => absurd q (by decide)⟩
    · rw [pk_un e, pk_un e]
      exact ⟨a1, a2, a3, a4, a5, a6, a7⟩
  · dsimp only
    rw [pe_at]
    unfold ew_f
    by_cases e : 7 * nd ≤ y ∧ y < 7 * nd + 7
    · rw [if_pos e, if_pos e]
      exact ⟨hok _ (by omega), rfl⟩
    · rw [if_neg e, if_neg e]
      exact h.2.1.2 y hy
end JJ5
