/-! a corner that the planner tries, over the integers -/
theorem bq_5 : ∀ k, k ≤ 6 → ∀ t, t < 2 ^ k → t &&& (127 ^^^ cs_n k) = 0 ∧ t < 128 := by decide +kernel
theorem bq_6 : ∀ k, k ≤ 6 → ∀ v, v < 2 ^ k → ∀ t, t < (bl_f v).length → (bl_f v).getD t 0 < k := by decide +kernel
theorem bq_7 : ∀ t, t < 64 → bl_f t = (List.range 6).filter (fun i => decide (t / 2 ^ i % 2 = 1)) := by decide +kernel
theorem bq_8 : ∀ k, k ≤ 6 → ∀ v, v < 2 ^ k → ∀ t, t < (bl_f v).length → (v ^^^ 2 ^ (bl_f v).getD t 0) < 2 ^ k := by decide +kernel
theorem fa_l {rests vals : Nat → Int32} {fr ti j : Nat} : ∀ m, fa_f rests vals fr ti j m = ((List.range m).filter (fun i => decide (ti / 2 ^ i % 2 = 1))).foldl (fun a i => a + rests i * cf_f vals fr ti j i) 0
  | 0 => rfl
  | m + 1 => by
    rw [List.range_succ, List.filter_append, List.foldl_append, ← fa_l m]
    show (if ti / 2 ^ m % 2 = 0 then _ else _) = _
    by_cases h : ti / 2 ^ m % 2 = 0
    · rw [if_pos h]
      have : decide (ti / 2 ^ m % 2 = 1) = false := by rw [h]; rfl
      simp [List.filter, this]
    · rw [if_neg h]
      have : decide (ti / 2 ^ m % 2 = 1) = true := by
        have h1 : ti / 2 ^ m % 2 = 1 := by omega
        rw [h1]; rfl
      simp [List.filter, this]
/-- the limits' rows of the free amounts -/
def at_f (N : Nat → Nat → Int) (R C : List Nat) : Nat → Nat → Int := fun b a => N (R.getD a 0) (C.getD b 0)
set_option maxHeartbeats 8000000 in
theorem fa_det {N : Nat → Nat → Int} {R C : List Nat} {a : Nat} (hl : R.length = C.length) (h4 : R.length ≤ 4) (ha : a < R.length) {g rest : Nat → Int} (hg : ∀ b, b < C.length → g (C.getD b 0) = rest b * (if (a + b) % 2 = 0 then dl_f N (R.eraseIdx a) (C.eraseIdx b) else -(dl_f N (R.eraseIdx a) (C.eraseIdx b)))) : C.foldl (fun x i => x + g i) 0 = xd_f R.length (rc_f (at_f N R C) rest a) := by
  rcases R with _ | ⟨r0, _ | ⟨r1, _ | ⟨r2, _ | ⟨r3, _ | ⟨r4, R⟩⟩⟩⟩⟩
  · simp at ha
  · rcases C with _ | ⟨c0, _ | ⟨c1, C⟩⟩ <;> simp at hl
    rcases (show a = 0 by simp at ha; omega) with rfl
    have g0 := hg 0 (by simp)
    simp [dl_f] at g0
    simp [xd_f, ek_f, rc_f]; exact g0
  · rcases C with _ | ⟨c0, _ | ⟨c1, _ | ⟨c2, C⟩⟩⟩ <;> simp at hl
    have g0 := hg 0 (by simp)
    have g1 := hg 1 (by simp)
    rcases (show a = 0 ∨ a = 1 by simp at ha; omega) with rfl | rfl <;> (simp [dl_f, xd_f, ek_f, lm_f] at g0 g1; simp [xd_f, ek_f, e1_f, rc_f, at_f]; rw [g0, g1]; grind)
  · rcases C with _ | ⟨c0, _ | ⟨c1, _ | ⟨c2, _ | ⟨c3, C⟩⟩⟩⟩ <;> simp at hl
    have g0 := hg 0 (by simp)
    have g1 := hg 1 (by simp)
    have g2 := hg 2 (by simp)
    rcases (show a = 0 ∨ a = 1 ∨ a = 2 by simp at ha; omega) with rfl | rfl | rfl <;> (simp [dl_f, xd_f, ek_f, e1_f, lm_f] at g0 g1 g2; simp [xd_f, ek_f, e2_f, rc_f, at_f]; rw [g0, g1, g2]; grind)
  · rcases C with _ | ⟨c0, _ | ⟨c1, _ | ⟨c2, _ | ⟨c3, _ | ⟨c4, C⟩⟩⟩⟩⟩ <;> simp at hl
    have g0 := hg 0 (by simp)
    have g1 := hg 1 (by simp)
    have g2 := hg 2 (by simp)
    have g3 := hg 3 (by simp)
    rcases (show a = 0 ∨ a = 1 ∨ a = 2 ∨ a = 3 by simp at ha; omega) with rfl | rfl | rfl | rfl <;> (simp [dl_f, xd_f, ek_f, e2_f, lm_f] at g0 g1 g2 g3; simp [xd_f, ek_f, e3_f, rc_f, at_f]; rw [g0, g1, g2, g3]; grind)
  · simp at h4
section CD
variable {w : Nat → Prop} {lo hi co bd : Nat → Int32} {M : Nat → Nat → Int32} {n k : Nat} {vals se rests : Nat → Int32} {fr ti : Nat}
theorem mx_b (hq : pq_ok lo hi co M bd n k) : ∀ a i, a < n → (i < k ∨ i = 6) → (mx_e co M a i).toInt.natAbs ≤ 9 := fun a i ha hi => by
  unfold mx_e
  by_cases e : i = 6
  · rw [if_pos e]; exact (hq.2.2.1 a ha).2
  · rw [if_neg e]; exact (hq.2.2.2 i (hi.resolve_right e)).1 a ha
theorem dl_nn {N N' : Nat → Nat → Int} {R C : List Nat} (hl : R.length = C.length) (h4 : R.length ≤ 4) (h : ∀ a b, a < R.length → b < C.length → N (R.getD a 0) (C.getD b 0) = N' (R.getD a 0) (C.getD b 0)) : dl_f N R C = dl_f N' R C := by
  unfold dl_f
  by_cases e : R.length = 0
  · rw [if_pos e, if_pos e]
  · rw [if_neg e, if_neg e]
    exact xd_cg ⟨by omega, h4⟩ (fun a b ha hb => h a b ha (by omega))
/-- the minors of the limits -/
theorem vl_det (hq : pq_ok lo hi co M bd n k) (hm : mn_part vals co M k (2 ^ n) 1) {f t : Nat} (hf : f < 2 ^ n) (ht : t < 2 ^ k) (hp : pc_n f = pc_n t) : (vals (f * 128 + t)).toInt = dl_f (nn_f M) (bl_f f) (bl_f t) ∧ (vals (f * 128 + t)).toInt.natAbs ≤ fb_f (pc_n f) := by
  have h5 := bq_5 k hq.2.1 t ht
  have h := mn_det hm hq.1.2 hq.2.1 (mx_b hq) (pc_n f) f t rfl hp.symm hf h5.2 h5.1
  refine ⟨?_, h.2⟩
  have h16 := bt_2lt n hq.1.2
  rw [h.1]
  refine dl_nn (by rw [bl_len f (by omega), bl_len t h5.2, hp]) (by rw [bl_len f (by omega)]; exact bl_4 f (by omega)) (fun a b ha hb => ?_)
  have := bq_6 k hq.2.1 t ht b hb
  have hk := hq.2.1
  unfold nn_f mx_e
  rw [if_neg (by omega)]
theorem fb_m : ∀ s, s ≤ 4 → fb_f s ≤ 157464 := by decide
theorem fb_m3 : ∀ s, s ≤ 3 → fb_f s ≤ 4374 := by decide
/-- a free amount by Cramer's rule -/
theorem fa_int (hq : pq_ok lo hi co M bd n k) (hm : mn_part vals co M k (2 ^ n) 1) (hf : fr < 2 ^ n) (ht : ti < 2 ^ k) (hp : pc_n fr = pc_n ti) (hr : ∀ i, i < k → (rests i).toInt.natAbs ≤ 1000) {a : Nat} (ha : a < (bl_f fr).length) :
    (fa_f rests vals fr ti ((bl_f fr).getD a 0) 6).toInt = xd_f (bl_f fr).length (rc_f (at_f (nn_f M) (bl_f fr) (bl_f ti)) (fun b => (rests ((bl_f ti).getD b 0)).toInt) a) ∧ (fa_f rests vals fr ti ((bl_f fr).getD a 0) 6).toInt.natAbs ≤ 17600000 := by
  have h16 := bt_2lt n hq.1.2
  have h64 := bt_64 k hq.2.1
  have h5 := bq_5 k hq.2.1 ti ht
  have lR := bl_len fr (by omega)
  have lC := bl_len ti h5.2
  have l4 := bl_4 fr (by omega)
  have hR := bl_at fr (by omega) a ha
  have hRr := bl_row n hq.1.2 fr hf a ha
  have hcf : ∀ b, b < (bl_f ti).length → (cf_f vals fr ti ((bl_f fr).getD a 0) ((bl_f ti).getD b 0)).toInt = (if (a + b) % 2 = 0 then dl_f (nn_f M) ((bl_f fr).eraseIdx a) ((bl_f ti).eraseIdx b) else -(dl_f (nn_f M) ((bl_f fr).eraseIdx a) ((bl_f ti).eraseIdx b))) ∧ (cf_f vals fr ti ((bl_f fr).getD a 0) ((bl_f ti).getD b 0)).toInt.natAbs ≤ 4374 := fun b hb => by
    have hC := bl_at ti h5.2 b hb
    have h8 := bq_8 k hq.2.1 ti ht b hb
    have v := vl_det hq hm hRr.2 h8 (by omega)
    rw [hR.2.1, hC.2.1] at v
    have f3 := fb_m3 _ (show pc_n (fr ^^^ 2 ^ (bl_f fr).getD a 0) ≤ 3 by omega)
    have e := cf_int (vals := vals) hR.1 hC.1 v.1 (K := 4374) (by rw [← v.1]; omega) (by decide)
    refine ⟨e, ?_⟩
    rw [e]
    have := v.2
    rw [v.1] at this
    by_cases z : (a + b) % 2 = 0
    · rw [if_pos z]; omega
    · rw [if_neg z, Int.natAbs_neg]; omega
  have hg : ∀ b, b < (bl_f ti).length → (rests ((bl_f ti).getD b 0) * cf_f vals fr ti ((bl_f fr).getD a 0) ((bl_f ti).getD b 0)).toInt = (rests ((bl_f ti).getD b 0)).toInt * (cf_f vals fr ti ((bl_f fr).getD a 0) ((bl_f ti).getD b 0)).toInt ∧ (rests ((bl_f ti).getD b 0) * cf_f vals fr ti ((bl_f fr).getD a 0) ((bl_f ti).getD b 0)).toInt.natAbs ≤ 4374000 := fun b hb => by
    have r1 := hr _ (bq_6 k hq.2.1 ti ht b hb)
    have c1 := (hcf b hb).2
    have e := i3_mul r1 c1 (by decide)
    exact ⟨e, by rw [e]; exact nb_le (nb_m r1 c1) (by decide)⟩
  have hmem : ∀ i ∈ bl_f ti, (rests i * cf_f vals fr ti ((bl_f fr).getD a 0) i).toInt.natAbs ≤ 4374000 := fun i hi => by
    obtain ⟨t, ht, e⟩ := gd_mem.mp hi
    rw [← e]; exact (hg t ht).2
  have hsum : (fa_f rests vals fr ti ((bl_f fr).getD a 0) 6).toInt = (bl_f ti).foldl (fun x i => x + (rests i * cf_f vals fr ti ((bl_f fr).getD a 0) i).toInt) 0 := by
    rw [fa_l 6, ← bq_7 ti (by omega)]
    have hlen : (bl_f ti).length * 4374000 ≤ 4 * 4374000 := Nat.mul_le_mul_right _ (by omega)
    exact fl_int (K := 4374000) (bl_f ti) 0 hmem (by rw [show (0 : Int32).toInt = 0 from rfl]; omega)
  refine ⟨?_, ?_⟩
  · rw [hsum]
    exact fa_det (by omega) (by omega) ha (fun b hb => by rw [(hg b hb).1, (hcf b hb).1])
  · rw [hsum]
    have hB : ∀ (l : List Nat) (x : Int), (∀ i ∈ l, (rests i * cf_f vals fr ti ((bl_f fr).getD a 0) i).toInt.natAbs ≤ 4374000) → (l.foldl (fun x i => x + (rests i * cf_f vals fr ti ((bl_f fr).getD a 0) i).toInt) x).natAbs ≤ x.natAbs + l.length * 4374000 := by
      intro l
      induction l with
      | nil => intro x _; simp
      | cons i l ih =>
        intro x h
        have h1 := h i List.mem_cons_self
        have h2 := ih (x + (rests i * cf_f vals fr ti ((bl_f fr).getD a 0) i).toInt) (fun j hj => h j (List.mem_cons_of_mem _ hj))
        rw [List.foldl_cons, List.length_cons]
        omega
    have := hB (bl_f ti) 0 hmem
    have hlen : (bl_f ti).length * 4374000 ≤ 4 * 4374000 := Nat.mul_le_mul_right _ (by omega)
    rw [show (0 : Int).natAbs = 0 from rfl] at this
    omega
end CD
