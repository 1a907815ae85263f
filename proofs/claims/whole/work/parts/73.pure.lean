theorem tc_no {lo hi co : Nat → Int32} {M : Nat → Nat → Int32} {bd vals se : Nat → Int32} {n k fr ti : Nat} {sg : sg_T} {tr1 : Nat → Int32} (h0 : ¬ vals (fr * 128 + ti) = 0) (ht : tr1 = mx_f (tc_t se sg.2.2.2.2.1 vals fr ti) sg.2.2.2.2.2 n)
    (h : ¬ (ib_ok sg.1 sg.2.1 sg.2.2.1 sg.2.2.2.1 tr1 (wg_sum co tr1 n).toInt32 (dv_f (vals (fr * 128 + ti))) n ∧ kp_ok lo hi M bd tr1 (dv_f (vals (fr * 128 + ti))) n k)) : (sg.1, sg.2.1, sg.2.2.1, sg.2.2.2.1, sg.2.2.2.2.1, tr1) = tc_s lo hi co M bd vals se n k fr ti sg := by
  subst ht; unfold tc_s; rw [ci_n h0]; unfold tk_s; rw [ci_n h]
theorem tc_yes {lo hi co : Nat → Int32} {M : Nat → Nat → Int32} {bd vals se : Nat → Int32} {n k fr ti : Nat} {sg : sg_T} {tr1 b1 : Nat → Int32} (h0 : ¬ vals (fr * 128 + ti) = 0) (ht : tr1 = mx_f (tc_t se sg.2.2.2.2.1 vals fr ti) sg.2.2.2.2.2 n)
    (h : ib_ok sg.1 sg.2.1 sg.2.2.1 sg.2.2.2.1 tr1 (wg_sum co tr1 n).toInt32 (dv_f (vals (fr * 128 + ti))) n ∧ kp_ok lo hi M bd tr1 (dv_f (vals (fr * 128 + ti))) n k) (hb : b1 = mx_f tr1 sg.2.1 4) :
    (1, b1, dv_f (vals (fr * 128 + ti)), (wg_sum co tr1 n).toInt32, sg.2.2.2.2.1, tr1) = tc_s lo hi co M bd vals se n k fr ti sg := by
  subst hb; subst ht; unfold tc_s; rw [ci_n h0]; unfold tk_s; rw [ci_t h]
theorem rs_eq {M : Nat → Nat → Int32} {bd se : Nat → Int32} {n k fr : Nat} {sg : sg_T} {re1 tr1 : Nat → Int32} (h : tr1 = mx_f (rs_t se fr) sg.2.2.2.2.2 n ∧ re1 = mx_f (rs_r M bd (mx_f (rs_t se fr) sg.2.2.2.2.2 n) n) sg.2.2.2.2.1 k) :
    (sg.1, sg.2.1, sg.2.2.1, sg.2.2.2.1, re1, tr1) = rs_s M bd se n k fr sg := by
  obtain ⟨rfl, rfl⟩ := h; rfl
theorem up_off {se se2 : Nat → Int32} {j : Nat} {v : Int32} (hs : ∀ i, ¬ i = j → se2 i = se i) : upd se2 j v = upd se j v := by
  funext i
  by_cases h : i = j
  · subst h; rw [pk_us, pk_us]
  · rw [pk_un h, pk_un h]; exact hs i h
theorem up_bk {se se2 : Nat → Int32} {j : Nat} {v : Int32} (hs : ∀ i, ¬ i = j → se2 i = se i) (h : se j = v) : upd se2 j v = se := by
  rw [up_off hs, ← h]
  funext i
  by_cases h : i = j
  · subst h; exact pk_us
  · exact pk_un h
section ST
variable {lo hi wh co : Nat → Int32} {M : Nat → Nat → Int32} {bd vals : Nat → Int32} {lz : Int32} {wd : Nat → Nat} {n k f j fr : Nat} {lc ot : Int32} {se : Nat → Int32} {sg s2 z : sg_T}
theorem st_y {rec : Int32 → (Nat → Int32) → sg_T → sg_T} {t : Nat} (hv : s2 = fo_l (st_g wh co lo lz wd j ot se rec) t sg) (hq : ¬ wl_f wh lz j = 0 ∨ t = 0 ∨ t = wd j) (hz : z = rec (ot + co j * vl_f lo co wd j t) (upd se j (vl_f lo co wd j t)) s2) :
    z = fo_l (st_g wh co lo lz wd j ot se rec) (t + 1) sg := by
  rw [hz, hv]; exact (ci_t hq).symm
theorem st_n {rec : Int32 → (Nat → Int32) → sg_T → sg_T} {t : Nat} (hv : s2 = fo_l (st_g wh co lo lz wd j ot se rec) t sg) (hq : ¬ (¬ wl_f wh lz j = 0 ∨ t = 0 ∨ t = wd j)) : s2 = fo_l (st_g wh co lo lz wd j ot se rec) (t + 1) sg := by
  rw [hv]; exact (ci_n hq).symm
theorem st_a (hA : ib_ok sg.1 sg.2.1 sg.2.2.1 sg.2.2.2.1 se lc 1 n ∧ cb_ok M bd hi se j fr n k) (hj : ¬ n ≤ j) (hq : ¬ (wl_f wh lz j = 0 ∧ ¬ wd j = 0))
    (hx : z = fo_l (st_g wh co lo lz wd j (lc - lc_f lo hi co j) se (fun c z s => st_f lo hi wh co M bd vals lz wd n k f (j + 1) fr c z s)) (wd j + 1) sg) : z = st_f lo hi wh co M bd vals lz wd n k (f + 1) j fr lc se sg := by
  rw [hx]; exact ((ci_t hA).trans ((ci_n hj).trans (ci_n hq))).symm
theorem st_b (hA : ib_ok sg.1 sg.2.1 sg.2.2.1 sg.2.2.2.1 se lc 1 n ∧ cb_ok M bd hi se j fr n k) (hj : ¬ n ≤ j) (hq : wl_f wh lz j = 0 ∧ ¬ wd j = 0)
    (hx : s2 = fo_l (st_g wh co lo lz wd j (lc - lc_f lo hi co j) se (fun c z s => st_f lo hi wh co M bd vals lz wd n k f (j + 1) fr c z s)) (wd j + 1) sg) (hz : z = st_f lo hi wh co M bd vals lz wd n k f (j + 1) (fr + 2 ^ j) lc se s2) : z = st_f lo hi wh co M bd vals lz wd n k (f + 1) j fr lc se sg := by
  rw [hz, hx]; exact ((ci_t hA).trans ((ci_n hj).trans (ci_t hq))).symm
end ST
def ls_f (lo hi co : Nat → Int32) : Nat → Int32
  | 0 => 0
  | j + 1 => ls_f lo hi co j + lc_f lo hi co j
theorem wl_a {wh : Nat → Int32} {lz : Int32} {j : Nat} (h1 : ¬ wh j = 0) (h2 : lz = 0) : 1 = wl_f wh lz j := (if_pos ⟨h1, h2⟩).symm
theorem wl_b {wh : Nat → Int32} {lz : Int32} {j : Nat} (h1 : wh j = 0) : 0 = wl_f wh lz j := (if_neg (fun q => q.1 h1)).symm
theorem wl_c {wh : Nat → Int32} {lz : Int32} {j : Nat} (h2 : ¬ lz = 0) : 0 = wl_f wh lz j := (if_neg (fun q => h2 q.2)).symm
