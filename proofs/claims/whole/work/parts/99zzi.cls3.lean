/-! the corners of a set of free amounts, as the planner tries them -/
theorem fr_in {v j : Nat} (hj : j < 7) : ¬ v / 2 ^ j % 2 = 0 ↔ j ∈ bl_f v := by
  rw [bl_mem]
  constructor
  · intro h; exact ⟨hj, by omega⟩
  · intro h; omega
/-- what the settled amounts are: whole or at an end -/
def sv_ok (w : Nat → Prop) (lo hi : Nat → Int32) (v : Int32) (j : Nat) : Prop := ((lo j).toInt ≤ v.toInt ∧ v.toInt ≤ (hi j).toInt) ∧ (¬ w j → v.toInt = (lo j).toInt ∨ v.toInt = (hi j).toInt)
def zv_f (se : Nat → Int32) (fr : Nat) : Nat → Int := fun j => if fr / 2 ^ j % 2 = 0 then (se j).toInt else 0
def rt_ok (M : Nat → Nat → Int32) (bd se : Nat → Int32) (n k fr : Nat) (rests : Nat → Int32) : Prop := ∀ i, i < k → (rests i).toInt = (bd i).toInt - sm_f (fun j => (M i j).toInt * zv_f se fr j) n
section CT
variable {w : Nat → Prop} {lo hi co bd : Nat → Int32} {M : Nat → Nat → Int32} {n k : Nat} {vals se : Nat → Int32} {fr ti : Nat}
theorem zv_b (hq : pq_ok lo hi co M bd n k) (hse : ∀ j, j < n → fr / 2 ^ j % 2 = 0 → sv_ok w lo hi (se j) j) {j : Nat} (hj : j < n) : (zv_f se fr j).natAbs ≤ 20 := by
  unfold zv_f
  have a := (hq.2.2.1 j hj).1
  by_cases h : fr / 2 ^ j % 2 = 0
  · rw [if_pos h]
    have := (hse j hj h).1
    omega
  · rw [if_neg h]; decide
theorem rt_b (hq : pq_ok lo hi co M bd n k) (hse : ∀ j, j < n → fr / 2 ^ j % 2 = 0 → sv_ok w lo hi (se j) j) {rests : Nat → Int32} (hr : rt_ok M bd se n k fr rests) : ∀ i, i < k → (rests i).toInt.natAbs ≤ 1000 := fun i hi => by
  have b := hq.2.2.2 i hi
  have := sm_b (c := fun j => (M i j).toInt) (x := zv_f se fr) (K := 20) n (fun j hj => ⟨b.1 j hj, zv_b hq hse hj⟩)
  have h2 : n * (9 * 20) ≤ 4 * (9 * 20) := Nat.mul_le_mul_right _ hq.1.2
  rw [hr i hi]
  omega
theorem re_bl (hq : pq_ok lo hi co M bd n k) (hf : fr < 2 ^ n) : re_ok (fun j => fr / 2 ^ j % 2 = 0) (fun t => (bl_f fr).getD t 0) (bl_f fr).length n := by
  have h16 := bt_2lt n hq.1.2
  have hic := bl_ic (show fr < 128 by omega)
  refine ⟨fun c hc => ⟨(bl_row n hq.1.2 fr hf c hc).1, ?_⟩, hic.1, fun i hi hn => gd_mem.mp ((fr_in (by have := hq.1.2; omega)).mp hn)⟩
  exact (fr_in (hic.2 c hc)).mpr (gd_mem.mpr ⟨c, hc, rfl⟩)
/-- the point of a corner that the planner tries -/
theorem cand_c (hq : pq_ok lo hi co M bd n k) (hm : mn_part vals co M k (2 ^ n) 1) (hf : fr < 2 ^ n) (ht : ti < 2 ^ k) (hp : pc_n fr = pc_n ti) (hse : ∀ j, j < n → fr / 2 ^ j % 2 = 0 → sv_ok w lo hi (se j) j) (hfw : ∀ j, j < n → ¬ fr / 2 ^ j % 2 = 0 → ¬ w j) {rests : Nat → Int32} (hr : rt_ok M bd se n k fr rests) (h0 : ¬ vals (fr * 128 + ti) = 0) :
    ∃ sg : Int, (sg = 1 ∨ sg = -1) ∧ (dv_f (vals (fr * 128 + ti))).toInt = sg * dl_f (nn_f M) (bl_f fr) (bl_f ti) ∧ (0 < (dv_f (vals (fr * 128 + ti))).toInt ∧ (dv_f (vals (fr * 128 + ti))).toInt ≤ 162009) ∧ ¬ dl_f (nn_f M) (bl_f fr) (bl_f ti) = 0 ∧
      (∀ a, a < (bl_f fr).length → (tc_t se rests vals fr ti ((bl_f fr).getD a 0)).toInt = sg * xd_f (bl_f fr).length (rc_f (at_f (nn_f M) (bl_f fr) (bl_f ti)) (fun b => (rests ((bl_f ti).getD b 0)).toInt) a)) ∧ (∀ j, j < n → fr / 2 ^ j % 2 = 0 → (tc_t se rests vals fr ti j).toInt = (se j).toInt * (dv_f (vals (fr * 128 + ti))).toInt) ∧ ∀ j, j < n → (tc_t se rests vals fr ti j).toInt.natAbs ≤ 18000000 := by
  have h16 := bt_2lt n hq.1.2
  have v := vl_det hq hm hf ht hp
  have hb := fb_m _ (bl_4 fr (by omega))
  have hne : ¬ (vals (fr * 128 + ti)).toInt = 0 := fun z => h0 (Int32.toInt_inj.mp (by rw [z]; rfl))
  have z0 : (0 : Int32).toInt = 0 := rfl
  generalize hdet : vals (fr * 128 + ti) = det at v hne h0
  have hsg : ((sn_f det).toInt = 1 ∧ (dv_f det).toInt = det.toInt ∧ 0 < det.toInt) ∨ ((sn_f det).toInt = -1 ∧ (dv_f det).toInt = -det.toInt ∧ det.toInt < 0) := by
    unfold sn_f dv_f
    by_cases h : 0 ≤ det
    · rw [if_pos h, if_pos h]
      have := Int32.le_iff_toInt_le.mp h
      exact Or.inl ⟨rfl, rfl, by omega⟩
    · rw [if_neg h, if_neg h]
      have : ¬ (0 : Int32).toInt ≤ det.toInt := fun q => h (Int32.le_iff_toInt_le.mpr q)
      exact Or.inr ⟨by decide, i3_neg (a := 200000) (by omega) (by decide), by omega⟩
  have hd : 0 < (dv_f det).toInt ∧ (dv_f det).toInt ≤ 162009 := by rcases hsg with ⟨a, b, c⟩ | ⟨a, b, c⟩ <;> rw [b] <;> omega
  have hrb := rt_b hq hse hr
  have hfree : ∀ a, a < (bl_f fr).length → (tc_t se rests vals fr ti ((bl_f fr).getD a 0)).toInt = (sn_f det).toInt * xd_f (bl_f fr).length (rc_f (at_f (nn_f M) (bl_f fr) (bl_f ti)) (fun b => (rests ((bl_f ti).getD b 0)).toInt) a) ∧ (tc_t se rests vals fr ti ((bl_f fr).getD a 0)).toInt.natAbs ≤ 18000000 := fun a ha => by
    have fi := fa_int hq hm hf ht hp hrb ha
    have hin : ¬ fr / 2 ^ ((bl_f fr).getD a 0) % 2 = 0 := (fr_in ((bl_ic (show fr < 128 by omega)).2 a ha)).mpr (gd_mem.mpr ⟨a, ha, rfl⟩)
    have e : tc_t se rests vals fr ti ((bl_f fr).getD a 0) = sn_f det * fa_f rests vals fr ti ((bl_f fr).getD a 0) 6 := by
      unfold tc_t
      rw [if_neg hin, hdet]
    rw [e, i3_mul (a := 1) (b := 17600000) (by rcases hsg with ⟨q, -, -⟩ | ⟨q, -, -⟩ <;> rw [q] <;> decide) fi.2 (by decide), fi.1]
    refine ⟨rfl, ?_⟩
    have := fi.2
    rw [fi.1] at this
    rcases hsg with ⟨q, -, -⟩ | ⟨q, -, -⟩ <;> rw [q] <;> omega
  have hset : ∀ j, j < n → fr / 2 ^ j % 2 = 0 → (tc_t se rests vals fr ti j).toInt = (se j).toInt * (dv_f det).toInt ∧ (tc_t se rests vals fr ti j).toInt.natAbs ≤ 18000000 := fun j hj h => by
    have e : tc_t se rests vals fr ti j = se j * dv_f det := by
      unfold tc_t
      rw [if_pos h, hdet]
    have a := (hq.2.2.1 j hj).1
    have b := (hse j hj h).1
    have e2 := i3_mul (x := se j) (y := dv_f det) (a := 20) (b := 162009) (by omega) (by omega) (by decide)
    rw [e, e2]
    exact ⟨rfl, nb_le (nb_m (a := 20) (b := 162009) (by omega) (by omega)) (by decide)⟩
  refine ⟨(sn_f det).toInt, ?_, ?_, hd, by rw [← v.1]; exact hne, fun a ha => (hfree a ha).1, fun j hj h => (hset j hj h).1, fun j hj => ?_⟩
  · rcases hsg with ⟨q, -, -⟩ | ⟨q, -, -⟩
    · exact Or.inl q
    · exact Or.inr q
  · rw [← v.1]
    rcases hsg with ⟨q, b, -⟩ | ⟨q, b, -⟩ <;> rw [q, b] <;> omega
  · by_cases h : fr / 2 ^ j % 2 = 0
    · exact (hset j hj h).2
    · obtain ⟨c, hc, e⟩ := (re_bl hq hf).2.2 j hj h
      dsimp only at e
      rw [← e]; exact (hfree c hc).2
/-- an equation of a limit, told by the free amounts -/
theorem sm_fr (hq : pq_ok lo hi co M bd n k) (hf : fr < 2 ^ n) {X : Nat → Int} {d : Int} (hX : ∀ j, j < n → fr / 2 ^ j % 2 = 0 → X j = (se j).toInt * d) (i : Nat) : sm_f (fun j => (M i j).toInt * X j) n = sm_f (fun j => (M i j).toInt * zv_f se fr j) n * d + sm_f (fun a => (M i ((bl_f fr).getD a 0)).toInt * X ((bl_f fr).getD a 0)) (bl_f fr).length := by
  have e1 : sm_f (fun j => (M i j).toInt * (X j - zv_f se fr j * d)) n = sm_f (fun a => (M i ((bl_f fr).getD a 0)).toInt * X ((bl_f fr).getD a 0)) (bl_f fr).length := by
    rw [sm_re (w := fun j => fr / 2 ^ j % 2 = 0) (re := fun t => (bl_f fr).getD t 0) n (bl_f fr).length (re_bl hq hf) (fun j hj h => by
      unfold zv_f
      rw [if_pos h, hX j hj h, Int.sub_self, Int.mul_zero])]
    refine sm_cg _ (fun a ha => ?_)
    have hn := ((re_bl hq hf).1 a ha).2
    unfold zv_f
    rw [if_neg hn, Int.zero_mul, Int.sub_zero]
  rw [← e1, ← sm_mul, ← sm_add]
  refine sm_cg n (fun j hj => ?_)
  rw [Int.mul_sub, Int.mul_assoc]; omega
theorem cand_ck (hq : pq_ok lo hi co M bd n k) (hf : fr < 2 ^ n) (ht : ti < 2 ^ k) (hp : pc_n fr = pc_n ti) (hse : ∀ j, j < n → fr / 2 ^ j % 2 = 0 → sv_ok w lo hi (se j) j) (hfw : ∀ j, j < n → ¬ fr / 2 ^ j % 2 = 0 → ¬ w j) {rests : Nat → Int32} (hr : rt_ok M bd se n k fr rests) {sg d : Int} {X : Nat → Int} (hd : d = sg * dl_f (nn_f M) (bl_f fr) (bl_f ti)) (hD : ¬ dl_f (nn_f M) (bl_f fr) (bl_f ti) = 0)
    (hX : ∀ a, a < (bl_f fr).length → X ((bl_f fr).getD a 0) = sg * xd_f (bl_f fr).length (rc_f (at_f (nn_f M) (bl_f fr) (bl_f ti)) (fun b => (rests ((bl_f ti).getD b 0)).toInt) a)) (hS : ∀ j, j < n → fr / 2 ^ j % 2 = 0 → X j = (se j).toInt * d) : kn_ok w lo hi M bd n k d X := by
  have h16 := bt_2lt n hq.1.2
  have h5 := bq_5 k hq.2.1 ti ht
  have lR := bl_len fr (by omega)
  have lC := bl_len ti h5.2
  have l4 := bl_4 fr (by omega)
  have hre := re_bl hq hf
  refine ⟨bl_f fr, bl_f ti, ⟨by omega, by omega⟩, ⟨hre.2.1, fun t ht => (hre.1 t ht).1⟩, ⟨(bl_ic h5.2).1, bq_6 k hq.2.1 ti ht⟩, fun t ht => hfw _ (hre.1 t ht).1 (hre.1 t ht).2, hD, fun t ht9 => ?_, fun j hj => ?_⟩
  · have hs : 1 ≤ (bl_f fr).length ∧ (bl_f fr).length ≤ 4 := ⟨by omega, by omega⟩
    have e := cr_1 hs (r := t) (by omega) (at_f (nn_f M) (bl_f fr) (bl_f ti)) (fun b => (rests ((bl_f ti).getD b 0)).toInt)
    have hdl : dl_f (nn_f M) (bl_f fr) (bl_f ti) = xd_f (bl_f fr).length (at_f (nn_f M) (bl_f fr) (bl_f ti)) := by
      unfold dl_f
      rw [if_neg (by omega)]
      exact (xd_tr hs (lm_f (nn_f M) (bl_f fr) (bl_f ti))).symm
    rw [sm_fr hq hf hS, sm_cg (bl_f fr).length (g := fun c => at_f (nn_f M) (bl_f fr) (bl_f ti) t c * xd_f (bl_f fr).length (rc_f (at_f (nn_f M) (bl_f fr) (bl_f ti)) (fun b => (rests ((bl_f ti).getD b 0)).toInt) c) * sg) (fun a ha => by
      rw [hX a ha, Int.mul_comm sg, ← Int.mul_assoc]; rfl), sm_mul, e, ← hdl, hr _ (bq_6 k hq.2.1 ti ht t ht9), hd, Int.mul_assoc, Int.mul_comm _ sg, Int.sub_mul]
    omega
  · by_cases h : fr / 2 ^ j % 2 = 0
    · exact Or.inr ⟨(se j).toInt, (hse j hj h).1, hS j hj h, (hse j hj h).2⟩
    · exact Or.inl (hre.2.2 j hj h)
/-- a corner of these free amounts and limits is the one that is tried -/
theorem comp_c (hq : pq_ok lo hi co M bd n k) (hf : fr < 2 ^ n) (ht : ti < 2 ^ k) (hp : pc_n fr = pc_n ti) {rests : Nat → Int32} (hr : rt_ok M bd se n k fr rests) {d : Int} {x : Nat → Int} (hS : ∀ j, j < n → fr / 2 ^ j % 2 = 0 → x j = (se j).toInt * d) (hC : ∀ t, t < (bl_f ti).length → sm_f (fun j => (M ((bl_f ti).getD t 0) j).toInt * x j) n = (bd ((bl_f ti).getD t 0)).toInt * d) :
    ∀ a, a < (bl_f fr).length → d * xd_f (bl_f fr).length (rc_f (at_f (nn_f M) (bl_f fr) (bl_f ti)) (fun b => (rests ((bl_f ti).getD b 0)).toInt) a) = dl_f (nn_f M) (bl_f fr) (bl_f ti) * x ((bl_f fr).getD a 0) := by
  have h16 := bt_2lt n hq.1.2
  have h5 := bq_5 k hq.2.1 ti ht
  have lR := bl_len fr (by omega)
  have lC := bl_len ti h5.2
  have l4 := bl_4 fr (by omega)
  intro a ha
  have hs : 1 ≤ (bl_f fr).length ∧ (bl_f fr).length ≤ 4 := ⟨by omega, by omega⟩
  have hdl : dl_f (nn_f M) (bl_f fr) (bl_f ti) = xd_f (bl_f fr).length (at_f (nn_f M) (bl_f fr) (bl_f ti)) := by
    unfold dl_f
    rw [if_neg (by omega)]
    exact (xd_tr hs (lm_f (nn_f M) (bl_f fr) (bl_f ti))).symm
  rw [hdl]
  refine cr_u (x := fun c => x ((bl_f fr).getD c 0)) hs ha (fun r hr9 => ?_)
  have e := hC r (by omega)
  rw [sm_fr hq hf hS] at e
  have e2 : sm_f (fun c => at_f (nn_f M) (bl_f fr) (bl_f ti) r c * x ((bl_f fr).getD c 0)) (bl_f fr).length = sm_f (fun a => (M ((bl_f ti).getD r 0) ((bl_f fr).getD a 0)).toInt * x ((bl_f fr).getD a 0)) (bl_f fr).length := rfl
  rw [e2, hr _ (bq_6 k hq.2.1 ti ht r (by omega)), Int.mul_sub, Int.mul_comm d, Int.mul_comm d]
  omega
end CT
