/-! all corners of a leaf -/
theorem t3_int {x : Int64} (h : x.toInt.natAbs ≤ 2000000000) : (x.toInt32).toInt = x.toInt := by
  rw [Int64.toInt_toInt32]; exact Int.bmod_eq_of_le (by omega) (by omega)
section TS
variable {w : Nat → Prop} {lo hi co bd : Nat → Int32} {M : Nat → Nat → Int32} {n k : Nat} {vals se : Nat → Int32} {fr ti : Nat}
theorem tk_rest {d xc : Int32} {s : sg_T} : (tk_s lo hi co M bd n k d xc s).2.2.2.2.1 = s.2.2.2.2.1 := by
  unfold tk_s
  by_cases h : ib_ok s.1 s.2.1 s.2.2.1 s.2.2.2.1 s.2.2.2.2.2 xc d n ∧ kp_ok lo hi M bd s.2.2.2.2.2 d n k
  · rw [ci_t h]
  · rw [ci_n h]
theorem tc_gen (hq : pq_ok lo hi co M bd n k) {s : sg_T} (hI : sI_ok w lo hi M bd co n k s) {d : Int32} {tr : Nat → Int32} {X : Nat → Int} (hb : 0 < d.toInt ∧ d.toInt ≤ 162009) (hX : ∀ j, j < n → (tr j).toInt = X j) (hXb : ∀ j, j < n → (X j).natAbs ≤ 18000000) (hkn : kn_ok w lo hi M bd n k d.toInt X) {t : sg_T} (ht : t = tk_s lo hi co M bd n k d (wg_sum co tr n).toInt32 (s.1, s.2.1, s.2.2.1, s.2.2.2.1, s.2.2.2.2.1, tr)) :
    sI_ok w lo hi M bd co n k t ∧ (∀ e x, 0 < e → sQ_ok co n s e x → sQ_ok co n t e x) ∧ (ki_ok lo hi M bd n k d.toInt X → sQ_ok co n t d.toInt X) ∧ t.2.2.2.2.1 = s.2.2.2.2.1 := by
  have hx : ∀ j, j < n → X j = jI tr j := fun j hj => (hX j hj).symm
  have htb : ∀ j, j < n → (tr j).toInt.natAbs ≤ 18000000 := fun j hj => by rw [hX j hj]; exact hXb j hj
  have hw := wg_int (c := co) (x := tr) (K := 18000000) (by decide) n hq.1.2 (fun j hj => ⟨(hq.2.2.1 j hj).2, htb j hj⟩)
  have h2 : n * (9 * 18000000) ≤ 4 * (9 * 18000000) := Nat.mul_le_mul_right _ hq.1.2
  have hc : (wg_sum co tr n).toInt32.toInt = sm_f (fun j => (co j).toInt * (tr j).toInt) n := by rw [t3_int (by omega), hw.1]
  have st := tk_step hq (s := (s.1, s.2.1, s.2.2.1, s.2.2.2.1, s.2.2.2.2.1, tr)) (d := d) (xc := (wg_sum co tr n).toInt32) hI hb htb hc (kn_cg hx hkn)
  rw [← ht] at st
  refine ⟨st.1, st.2.1, fun hki => ?_, by rw [ht]; exact tk_rest⟩
  have h3 := st.2.2 (ki_cg hx hki)
  exact ⟨h3.1, fun hl => h3.2 (xl_cg2 (fun i hi => vq_cg hx i hi) (fun i _ => rfl) hl)⟩
theorem tc_step (hq : pq_ok lo hi co M bd n k) (hm : mn_part vals co M k (2 ^ n) 1) (hf : fr < 2 ^ n) (ht : ti < 2 ^ k) (hp : pc_n fr = pc_n ti) (hse : ∀ j, j < n → fr / 2 ^ j % 2 = 0 → sv_ok w lo hi (se j) j) (hfw : ∀ j, j < n → ¬ fr / 2 ^ j % 2 = 0 → ¬ w j) {s : sg_T} (hI : sI_ok w lo hi M bd co n k s) (hr : rt_ok M bd se n k fr s.2.2.2.2.1) :
    sI_ok w lo hi M bd co n k (tc_s lo hi co M bd vals se n k fr ti s) ∧ (∀ e x, 0 < e → sQ_ok co n s e x → sQ_ok co n (tc_s lo hi co M bd vals se n k fr ti s) e x) ∧ (tc_s lo hi co M bd vals se n k fr ti s).2.2.2.2.1 = s.2.2.2.2.1 ∧
    ∀ d x, 0 < d → ki_ok lo hi M bd n k d x → ¬ dl_f (nn_f M) (bl_f fr) (bl_f ti) = 0 → (∀ j, j < n → fr / 2 ^ j % 2 = 0 → x j = (se j).toInt * d) → (∀ t, t < (bl_f ti).length → sm_f (fun j => (M ((bl_f ti).getD t 0) j).toInt * x j) n = (bd ((bl_f ti).getD t 0)).toInt * d) → sQ_ok co n (tc_s lo hi co M bd vals se n k fr ti s) d x := by
  by_cases h0 : vals (fr * 128 + ti) = 0
  · have e : tc_s lo hi co M bd vals se n k fr ti s = s := ci_t h0
    rw [e]
    refine ⟨hI, fun _ _ _ h => h, rfl, fun d x hd hki hdl => ?_⟩
    exact absurd (by rw [← (vl_det hq hm hf ht hp).1, h0]; rfl) hdl
  · obtain ⟨sg, hsg, c1, c2, c3, c4, c5, c6⟩ := cand_c hq hm hf ht hp hse hfw hr h0
    have hk := cand_ck hq hf ht hp hse hfw hr c1 c3 (X := jI (tc_t se s.2.2.2.2.1 vals fr ti)) c4 c5
    have g := tc_gen (w := w) hq hI (tr := mx_f (tc_t se s.2.2.2.2.1 vals fr ti) s.2.2.2.2.2 n) (X := jI (tc_t se s.2.2.2.2.1 vals fr ti)) c2 (fun j hj => by unfold mx_f; rw [if_pos hj]; rfl) c6 hk (t := tc_s lo hi co M bd vals se n k fr ti s) (ci_n h0)
    refine ⟨g.1, g.2.1, g.2.2.2, fun d x hd hki hdl hS hC => ?_⟩
    have hY := comp_c hq hf ht hp hr hS hC
    have hx : ∀ j, j < n → jI (tc_t se s.2.2.2.2.1 vals fr ti) j * d = x j * (dv_f (vals (fr * 128 + ti))).toInt := fun j hj => by
      by_cases z : fr / 2 ^ j % 2 = 0
      · have e5 : jI (tc_t se s.2.2.2.2.1 vals fr ti) j = (se j).toInt * (dv_f (vals (fr * 128 + ti))).toInt := c5 j hj z
        rw [e5, hS j hj z, Int.mul_assoc, Int.mul_assoc, Int.mul_comm d]
      · obtain ⟨a, ha, e⟩ := (re_bl hq hf).2.2 j hj z
        have e' : (bl_f fr).getD a 0 = j := e
        have e4 := c4 a ha
        have e4' : jI (tc_t se s.2.2.2.2.1 vals fr ti) ((bl_f fr).getD a 0) = sg * xd_f (bl_f fr).length (rc_f (at_f (nn_f M) (bl_f fr) (bl_f ti)) (fun b => (s.2.2.2.2.1 ((bl_f ti).getD b 0)).toInt) a) := e4
        rw [← e', e4', c1, Int.mul_assoc, Int.mul_comm _ d, hY a ha, ← Int.mul_assoc, Int.mul_comm (x ((bl_f fr).getD a 0))]
    have hQ := g.2.2.1 (ki_tr hd c2.1 hx hki)
    exact ⟨hQ.1, fun hl => hQ.2 (xl_cg hd c2.1 ((g.1 hQ.1).1.1) (fun i hi => (vq_eq hx i hi).symm) hl)⟩
/-- nothing is free -/
theorem tc_zero (hq : pq_ok lo hi co M bd n k) (hm : mn_part vals co M k (2 ^ n) 1) (hse : ∀ j, j < n → sv_ok w lo hi (se j) j) {s : sg_T} (hI : sI_ok w lo hi M bd co n k s) :
    sI_ok w lo hi M bd co n k (tc_s lo hi co M bd vals se n k 0 0 s) ∧ (∀ e x, 0 < e → sQ_ok co n s e x → sQ_ok co n (tc_s lo hi co M bd vals se n k 0 0 s) e x) ∧ ∀ d x, 0 < d → ki_ok lo hi M bd n k d x → (∀ j, j < n → x j = (se j).toInt * d) → sQ_ok co n (tc_s lo hi co M bd vals se n k 0 0 s) d x := by
  have hv : vals (0 * 128 + 0) = 1 := hm.1
  have h0 : ¬ vals (0 * 128 + 0) = 0 := by rw [hv]; decide
  have hd1 : dv_f (vals (0 * 128 + 0)) = 1 := by rw [hv]; decide
  have htc : ∀ j, tc_t se s.2.2.2.2.1 vals 0 0 j = se j := fun j => by
    unfold tc_t
    rw [if_pos (by simp), hd1]
    exact Int32.mul_one _
  have hb : 0 < (dv_f (vals (0 * 128 + 0))).toInt ∧ (dv_f (vals (0 * 128 + 0))).toInt ≤ 162009 := by rw [hd1]; decide
  have hk : kn_ok w lo hi M bd n k (dv_f (vals (0 * 128 + 0))).toInt (jI se) := by
    rw [hd1]
    refine ⟨[], [], ⟨rfl, by simp⟩, ⟨fun t ht => by simp at ht, fun t ht => by simp at ht⟩, ⟨fun t ht => by simp at ht, fun t ht => by simp at ht⟩, fun t ht => by simp at ht, by simp [dl_f], fun t ht => by simp at ht, fun j hj => Or.inr ⟨(se j).toInt, (hse j hj).1, ?_, (hse j hj).2⟩⟩
    show (se j).toInt = (se j).toInt * 1
    rw [Int.mul_one]
  have g := tc_gen (w := w) hq hI (tr := mx_f (tc_t se s.2.2.2.2.1 vals 0 0) s.2.2.2.2.2 n) (X := jI se) hb (fun j hj => by unfold mx_f; rw [if_pos hj, htc]; rfl) (fun j hj => by
    have a := (hq.2.2.1 j hj).1
    have b := (hse j hj).1
    show (se j).toInt.natAbs ≤ _
    omega) hk (t := tc_s lo hi co M bd vals se n k 0 0 s) (ci_n h0)
  refine ⟨g.1, g.2.1, fun d x hd hki hS => ?_⟩
  have hx : ∀ j, j < n → jI se j * d = x j * (dv_f (vals (0 * 128 + 0))).toInt := fun j hj => by
    rw [hS j hj, hd1]
    show (se j).toInt * d = (se j).toInt * d * 1
    rw [Int.mul_one]
  have hQ := g.2.2.1 (ki_tr hd hb.1 hx hki)
  exact ⟨hQ.1, fun hl => hQ.2 (xl_cg hd hb.1 ((g.1 hQ.1).1.1) (fun i hi => (vq_eq hx i hi).symm) hl)⟩
theorem rs_rt (hq : pq_ok lo hi co M bd n k) (hse : ∀ j, j < n → fr / 2 ^ j % 2 = 0 → sv_ok w lo hi (se j) j) {s : sg_T} : rt_ok M bd se n k fr (rs_s M bd se n k fr s).2.2.2.2.1 := by
  intro i hi
  have b := hq.2.2.2 i hi
  have hz : ∀ j, j < n → (mx_f (rs_t se fr) s.2.2.2.2.2 n j).toInt = zv_f se fr j := fun j hj => by
    unfold mx_f rs_t zv_f
    rw [if_pos hj]
    by_cases h : fr / 2 ^ j % 2 = 0
    · rw [if_pos h, if_pos h]
    · rw [if_neg h, if_neg h]; rfl
  have hw := wg_int (c := M i) (x := mx_f (rs_t se fr) s.2.2.2.2.2 n) (K := 20) (by decide) n hq.1.2 (fun j hj => ⟨b.1 j hj, by rw [hz j hj]; exact zv_b hq hse hj⟩)
  have h2 : n * (9 * 20) ≤ 4 * (9 * 20) := Nat.mul_le_mul_right _ hq.1.2
  show (mx_f (rs_r M bd (mx_f (rs_t se fr) s.2.2.2.2.2 n) n) s.2.2.2.2.1 k i).toInt = _
  unfold mx_f
  rw [if_pos hi]
  show (bd i - (wg_sum (M i) (mx_f (rs_t se fr) s.2.2.2.2.2 n) n).toInt32).toInt = _
  have e : ((wg_sum (M i) (mx_f (rs_t se fr) s.2.2.2.2.2 n) n).toInt32).toInt = sm_f (fun j => (M i j).toInt * zv_f se fr j) n := by
    rw [t3_int (by omega), hw.1]
    exact sm_cg n (fun j hj => by rw [hz j hj])
  have hb2 : ((wg_sum (M i) (mx_f (rs_t se fr) s.2.2.2.2.2 n) n).toInt32).toInt.natAbs ≤ 1000 := by rw [t3_int (by omega)]; omega
  rw [Int32.toInt_sub, e]
  rw [e] at hb2
  exact Int.bmod_eq_of_le (by omega) (by omega)
theorem ts_step (hq : pq_ok lo hi co M bd n k) (hm : mn_part vals co M k (2 ^ n) 1) (hf : fr < 2 ^ n) (hse : ∀ j, j < n → fr / 2 ^ j % 2 = 0 → sv_ok w lo hi (se j) j) (hfw : ∀ j, j < n → ¬ fr / 2 ^ j % 2 = 0 → ¬ w j) {s : sg_T} (hI : sI_ok w lo hi M bd co n k s) :
    sI_ok w lo hi M bd co n k (ts_s lo hi co M bd vals se n k fr s) ∧ (∀ e x, 0 < e → sQ_ok co n s e x → sQ_ok co n (ts_s lo hi co M bd vals se n k fr s) e x) ∧ ∀ d x ti, 0 < d → ki_ok lo hi M bd n k d x → ti < 2 ^ k → pc_n fr = pc_n ti → ¬ dl_f (nn_f M) (bl_f fr) (bl_f ti) = 0 → (∀ j, j < n → fr / 2 ^ j % 2 = 0 → x j = (se j).toInt * d) → (∀ t, t < (bl_f ti).length → sm_f (fun j => (M ((bl_f ti).getD t 0) j).toInt * x j) n = (bd ((bl_f ti).getD t 0)).toInt * d) → sQ_ok co n (ts_s lo hi co M bd vals se n k fr s) d x := by
  by_cases h0 : fr = 0
  · subst h0
    have e : ts_s lo hi co M bd vals se n k 0 s = tc_s lo hi co M bd vals se n k 0 0 s := ci_t rfl
    rw [e]
    have z := tc_zero (w := w) hq hm (fun j hj => hse j hj (by simp)) hI
    exact ⟨z.1, z.2.1, fun d x ti hd hki _ _ _ hS _ => z.2.2 d x hd hki (fun j hj => hS j hj (by simp))⟩
  · have e : ts_s lo hi co M bd vals se n k fr s = fo_l (tg_f lo hi co M bd vals se n k fr) (2 ^ k) (rs_s M bd se n k fr s) := ci_n h0
    rw [e]
    have h16 := bt_2lt n hq.1.2
    have key : ∀ m, m ≤ 2 ^ k → sI_ok w lo hi M bd co n k (fo_l (tg_f lo hi co M bd vals se n k fr) m (rs_s M bd se n k fr s)) ∧ (∀ e x, 0 < e → sQ_ok co n s e x → sQ_ok co n (fo_l (tg_f lo hi co M bd vals se n k fr) m (rs_s M bd se n k fr s)) e x) ∧ rt_ok M bd se n k fr (fo_l (tg_f lo hi co M bd vals se n k fr) m (rs_s M bd se n k fr s)).2.2.2.2.1 ∧ ∀ d x ti, 0 < d → ki_ok lo hi M bd n k d x → ti < m → pc_n fr = pc_n ti → ¬ dl_f (nn_f M) (bl_f fr) (bl_f ti) = 0 → (∀ j, j < n → fr / 2 ^ j % 2 = 0 → x j = (se j).toInt * d) → (∀ t, t < (bl_f ti).length → sm_f (fun j => (M ((bl_f ti).getD t 0) j).toInt * x j) n = (bd ((bl_f ti).getD t 0)).toInt * d) → sQ_ok co n (fo_l (tg_f lo hi co M bd vals se n k fr) m (rs_s M bd se n k fr s)) d x := by
      intro m
      induction m with
      | zero =>
        intro _
        exact ⟨hI, fun _ _ _ h => h, rs_rt hq hse, fun d x ti _ _ h => absurd h (Nat.not_lt_zero _)⟩
      | succ m ih =>
        intro hmk
        obtain ⟨i1, i2, i3, i4⟩ := ih (by omega)
        generalize hs : fo_l (tg_f lo hi co M bd vals se n k fr) m (rs_s M bd se n k fr s) = u at i1 i2 i3 i4
        have es : fo_l (tg_f lo hi co M bd vals se n k fr) (m + 1) (rs_s M bd se n k fr s) = tg_f lo hi co M bd vals se n k fr m u := by rw [← hs]; rfl
        rw [es]
        by_cases hc : 1 ≤ m ∧ pc_n m = pc_n fr
        · have e2 : tg_f lo hi co M bd vals se n k fr m u = tc_s lo hi co M bd vals se n k fr m u := ci_t hc
          rw [e2]
          have st := tc_step (w := w) hq hm hf (ti := m) (by omega) hc.2.symm hse hfw i1 i3
          refine ⟨st.1, fun e x he hQ => st.2.1 e x he (i2 e x he hQ), by rw [st.2.2.1]; exact i3, fun d x ti hd hki hti hp hdl hS hC => ?_⟩
          rcases Nat.lt_or_eq_of_le (Nat.le_of_lt_succ hti) with q | q
          · exact st.2.1 d x hd (i4 d x ti hd hki q hp hdl hS hC)
          · subst q
            exact st.2.2.2 d x hd hki hdl hS hC
        · have e2 : tg_f lo hi co M bd vals se n k fr m u = u := ci_n hc
          rw [e2]
          refine ⟨i1, i2, i3, fun d x ti hd hki hti hp hdl hS hC => ?_⟩
          rcases Nat.lt_or_eq_of_le (Nat.le_of_lt_succ hti) with q | q
          · exact i4 d x ti hd hki q hp hdl hS hC
          · subst q
            exfalso
            rcases Nat.eq_zero_or_pos ti with z | z
            · rw [z] at hp
              exact h0 (bl_z fr (by omega) (by rw [hp]; rfl))
            · exact hc ⟨z, hp.symm⟩
    have r := key (2 ^ k) (Nat.le_refl _)
    exact ⟨r.1, r.2.1, r.2.2.2⟩
end TS
