/-! numbers that prove something in a box: the planner has an END for it -/
section HE
variable {lo hi co bd : Nat → Int32} {M : Nat → Nat → Int32} {n k : Nat} {vals : Nat → Int32} {zs cl : Nat}
def bq_f (bd : Nat → Int32) (k : Nat) : Nat → Int := fun c => if c < k then (bd c).toInt else 0
theorem ev_e (hk : k ≤ 6) {u : Nat → Int} (h0 : ∀ c, k ≤ c → c < 6 → u c = 0) (j : Nat) : ev_i (nme_f co M) u j = (co j).toInt * u 6 + sm_f (fun i => (M i j).toInt * u i) k := by
  unfold ev_i
  show sm_f (fun c => nme_f co M j c * u c) 6 + nme_f co M j 6 * u 6 = _
  have e6 : nme_f co M j 6 = (co j).toInt := by unfold nme_f mx_e; rw [if_pos rfl]
  have e : sm_f (fun c => nme_f co M j c * u c) 6 = sm_f (fun i => (M i j).toInt * u i) k := by
    have := sm_pad (g := fun c => nme_f co M j c * u c) (k := k) (6 - k) (fun c h1 h2 => by rw [h0 c h1 (by omega), Int.mul_zero])
    rw [show k + (6 - k) = 6 by omega] at this
    rw [this]
    refine sm_cg k (fun c hc => ?_)
    unfold nme_f mx_e
    rw [if_neg (by omega)]
  rw [e6, e]; omega
theorem bq_e (hk : k ≤ 6) {u : Nat → Int} : sm_f (fun c => bq_f bd k c * u c) 7 = sm_f (fun i => (bd i).toInt * u i) k := by
  have := sm_pad (g := fun c => bq_f bd k c * u c) (k := k) (7 - k) (fun c h1 h2 => by unfold bq_f; rw [if_neg (by omega), Int.zero_mul])
  rw [show k + (7 - k) = 7 by omega] at this
  rw [this]
  exact sm_cg k (fun c hc => by unfold bq_f; rw [if_pos hc])
theorem ie_si {Z : Nat → Int64} {bl bm : Nat → Int32} {a b : Nat → Int} {E : Nat → Int} {S : Int} (h5 : (Z (0 + 1 + 4)).toInt = S) (hS : S.natAbs ≤ 93533616) : ∀ m, m ≤ 4 → (∀ j, j < m → (Z (0 + 1 + j)).toInt = E j ∧ (E j).natAbs ≤ 9920232 ∧ (bl j).toInt = a j ∧ (bm j).toInt = b j ∧ (a j).natAbs ≤ 21 ∧ (b j).natAbs ≤ 21) →
    (ie_s Z 0 bl bm m).toInt = sm_f (fun j => (if E j < 0 then b j else a j) * E j) m - S ∧ (ie_s Z 0 bl bm m).toInt.natAbs ≤ 93533616 + m * 208324872
  | 0, _, _ => by
    show (-(Z (0 + 1 + 4))).toInt = 0 - S ∧ (-(Z (0 + 1 + 4))).toInt.natAbs ≤ _
    rw [l6_neg (by rw [h5]; omega), h5]
    exact ⟨by omega, by omega⟩
  | m + 1, hm, h => by
    obtain ⟨e, bb⟩ := ie_si h5 hS m (by omega) (fun j hj => h j (by omega))
    obtain ⟨h1, h2, h3, h4, h6, h7⟩ := h m (by omega)
    have z0 : (0 : Int64).toInt = 0 := rfl
    have hx : ((if Z (0 + 1 + m) < 0 then bm m else bl m).toInt64).toInt = (if E m < 0 then b m else a m) := by
      rw [Int32.toInt_toInt64]
      by_cases q : Z (0 + 1 + m) < 0
      · have := Int64.lt_iff_toInt_lt.mp q
        rw [if_pos q, if_pos (by omega), h4]
      · have : ¬ (Z (0 + 1 + m)).toInt < 0 := fun y => q (Int64.lt_iff_toInt_lt.mpr y)
        rw [if_neg q, if_neg (by omega), h3]
    have hxb : (if E m < 0 then b m else a m).natAbs ≤ 21 := by split <;> assumption
    have p := i6_mul (x := Z (0 + 1 + m)) (y := (if Z (0 + 1 + m) < 0 then bm m else bl m).toInt64) (a := 9920232) (b := 21) (by rw [h1]; exact h2) (by rw [hx]; exact hxb) (by decide)
    rw [h1, hx, Int.mul_comm] at p
    have pb := nb_m hxb h2
    show (ie_s Z 0 bl bm m + Z (0 + 1 + m) * (if Z (0 + 1 + m) < 0 then bm m else bl m).toInt64).toInt = sm_f (fun j => (if E j < 0 then b j else a j) * E j) m + (if E m < 0 then b m else a m) * E m - S ∧ (ie_s Z 0 bl bm m + Z (0 + 1 + m) * (if Z (0 + 1 + m) < 0 then bm m else bl m).toInt64).toInt.natAbs ≤ _
    generalize (if E m < 0 then b m else a m) * E m = X at p pb ⊢
    rw [i6_add (by omega), p]
    exact ⟨by omega, by omega⟩
theorem he_of (hq : pq_ok lo hi co M bd n k) (hm : mn_part vals co M k (2 ^ n) 1) {wc : Int32} {bl bm : Nat → Int32} (hbx : ∀ j, j < n → (bl j).toInt.natAbs ≤ 21 ∧ (bm j).toInt.natAbs ≤ 21) {bp bq : Int64} (hbp : bp.toInt.natAbs ≤ 1000000000) (hbq : 0 < bq.toInt ∧ bq.toInt ≤ 162009) {u : Nat → Int} (hu : ∀ c, c < 7 → 0 ≤ u c) (hT : ∀ c, c < 7 → ¬ (c < k ∨ (c = 6 ∧ ¬ wc = 0)) → u c = 0)
    (hg : gg_ok bp.toInt bq.toInt (u 6) (ff_i (nme_f co M) (bq_f bd k) (jI bl) (jI bm) n u)) {gs : gt_T} {R : Nat → Int64} {num : Nat → Int32} (hgs : gs = fl_g (gr_f vals co M bd k (th_f wc k)) (2 ^ n) (0, R, num)) : he_ok gs.2.1 gs.1 n bp bq bl bm := by
  have hn := hq.1.2
  have hk := hq.2.1
  have h16 := bt_2lt n hn
  obtain ⟨P, Q, v, σ, hP, hQ, hl, hTQ, hv, hσ, hσv, hne, hgo⟩ := hb_du hn hbq.1 _ u (Nat.le_refl _) hu hT hg
  obtain ⟨zs, z1, z2⟩ := li_all (l := P) ⟨hP.1, fun t ht => by have := hP.2 t ht; omega⟩
  obtain ⟨cl, c1, c2⟩ := li_all hQ
  have hzs : zs < 2 ^ n := bq_1 n hn zs z1 (by rw [z2]; exact hP.2)
  have hTm : ∀ t, t < (bl_f cl).length → (bl_f cl).getD t 0 < k ∨ ((bl_f cl).getD t 0 = 6 ∧ ¬ wc = 0) := fun t ht => by
    rw [c2] at ht ⊢
    exact hTQ _ (gd_mem.mpr ⟨t, ht, rfl⟩)
  have hcs : cl &&& (127 ^^^ cs_n k) = 0 := th_2 k hk cl c1 (fun t ht => (hTm t ht).imp id (fun h => h.1))
  have hth : cl &&& (127 ^^^ th_f wc k) = 0 := by
    unfold th_f
    by_cases y : wc = 0
    · rw [if_pos y]
      exact th_1 k hk cl c1 (fun t ht => (hTm t ht).resolve_right (fun h => h.2 y))
    · rw [if_neg y]; exact hcs
  have hpc : pc_n cl = pc_n zs + 1 := by rw [← bl_len cl c1, ← bl_len zs z1, z2, c2]; exact hl.1
  have hcl1 : 1 ≤ cl := by
    rcases Nat.eq_zero_or_pos cl with y | y
    · rw [y] at hpc
      have : pc_n 0 = 0 := by decide
      omega
    · exact y
  obtain ⟨nv, nb⟩ := sn_nv hq hm hzs c1 hcs hpc
  rw [z2, c2] at nv
  have hveq : ∀ c, v c = (sn_n vals zs cl c).toInt := fun c => nv_u hv nv c
  have hsv : ∀ c, c < 7 → 0 ≤ σ * (sn_n vals zs cl c).toInt := fun c hc => by rw [← hveq]; exact hσv c hc
  have hnz : ∃ c, c < 7 ∧ ¬ (sn_n vals zs cl c).toInt = 0 := by
    obtain ⟨c, x1, x2⟩ := hne
    exact ⟨c, x1, by rw [← hveq]; exact x2⟩
  have hsk := (nf_i (num := num) hσ nb hsv hnz).1
  obtain ⟨i, num0, hi', hrow⟩ := en_in (by omega) hzs ⟨hcl1, c1⟩ hth hpc hsk hgs
  refine ⟨i, hi', (ie_congr hn hrow).mpr ?_⟩
  have hnum := (nf_i (num := num0) hσ nb hsv hnz).2
  generalize hNN : nf_f vals zs cl num0 = nn at hnum
  -- the numbers u
  have hvo : ∀ c, k ≤ c → c < 6 → v c = 0 := fun c x1 x2 => hv.2 c (fun y => by
    rcases hTQ c y with x | x <;> omega)
  have hu6 : (nn 0).toInt = σ * v 6 := by rw [hveq]; exact hnum 6 (by decide)
  have hui : ∀ c, c < 6 → (nn (0 + 1 + c)).toInt = σ * v c := fun c hc => by
    rw [hveq, ← hnum c (by omega)]
    congr 2
    unfold nx_i; rw [if_neg (by omega)]; omega
  have hub : ∀ c, (σ * v c).natAbs ≤ 157464 := fun c => by
    have := nb c
    rw [← hveq] at this
    rcases hσ with e | e <;> rw [e] <;> omega
  have hu0 : ∀ c, k ≤ c → c < 6 → (fun c => σ * v c) c = 0 := fun c x1 x2 => by show σ * v c = 0; rw [hvo c x1 x2, Int.mul_zero]
  have hrow0 : er_row nn 0 co M bd k 0 = (nn 0).toInt64 := rfl
  have hE : ∀ j, j < n → (er_row nn 0 co M bd k (0 + 1 + j)).toInt = ev_i (nme_f co M) (fun c => σ * v c) j ∧ (ev_i (nme_f co M) (fun c => σ * v c) j).natAbs ≤ 9920232 := fun j hj => by
    have e : er_row nn 0 co M bd k (0 + 1 + j) = en_e nn 0 (nn 0).toInt64 (co j) (fun i9 => M i9 j) k := by
      unfold er_row
      rw [if_neg (by omega), if_pos (by omega), show 0 + 1 + j - 1 = j by omega]
    obtain ⟨s1, s2⟩ := en_ei (num := nn) (w := (nn 0).toInt64) (cj := co j) (col := fun i9 => M i9 j) (by rw [Int32.toInt_toInt64, hu6]; exact hub 6) (hq.2.2.1 j hj).2 k hk (fun i hi => ⟨by rw [hui i (by omega)]; exact hub i, (hq.2.2.2 i hi).1 j hj⟩)
    have e2 : (en_e nn 0 (nn 0).toInt64 (co j) (fun i9 => M i9 j) k).toInt = ev_i (nme_f co M) (fun c => σ * v c) j := by
      rw [s1, ev_e hk hu0, Int32.toInt_toInt64, hu6, Int.mul_comm]
      congr 1
      exact sm_cg k (fun i hi => by rw [hui i (by omega), Int.mul_comm])
    rw [e]
    refine ⟨e2, ?_⟩
    rw [← e2]
    have : (k + 1) * 1417176 ≤ 7 * 1417176 := Nat.mul_le_mul_right _ (by omega)
    omega
  have hB : (er_row nn 0 co M bd k (0 + 1 + 4)).toInt = sm_f (fun c => bq_f bd k c * (σ * v c)) 7 ∧ (sm_f (fun c => bq_f bd k c * (σ * v c)) 7).natAbs ≤ 93533616 := by
    have e : er_row nn 0 co M bd k (0 + 1 + 4) = en_b nn 0 bd k := by unfold er_row; rfl
    obtain ⟨s1, s2⟩ := en_bi (num := nn) (bd := bd) k hk (fun i hi => ⟨by rw [hui i (by omega)]; exact hub i, (hq.2.2.2 i hi).2⟩)
    have e2 : (en_b nn 0 bd k).toInt = sm_f (fun c => bq_f bd k c * (σ * v c)) 7 := by
      rw [s1, bq_e hk (u := fun c => σ * v c)]
      exact sm_cg k (fun i hi => by rw [hui i (by omega), Int.mul_comm])
    rw [e]
    refine ⟨e2, ?_⟩
    rw [← e2]
    have : k * 15588936 ≤ 6 * 15588936 := Nat.mul_le_mul_right _ hk
    omega
  obtain ⟨f1, f2⟩ := ie_si (Z := er_row nn 0 co M bd k) (bl := bl) (bm := bm) (a := jI bl) (b := jI bm) (E := ev_i (nme_f co M) (fun c => σ * v c)) hB.1 hB.2 n hn (fun j hj => ⟨(hE j hj).1, (hE j hj).2, rfl, rfl, (hbx j hj).1, (hbx j hj).2⟩)
  have f3 : (ie_s (er_row nn 0 co M bd k) 0 bl bm n).toInt = ff_i (nme_f co M) (bq_f bd k) (jI bl) (jI bm) n (fun c => σ * v c) := f1
  have f4 : (ie_s (er_row nn 0 co M bd k) 0 bl bm n).toInt.natAbs ≤ 1000000000 := by
    have : n * 208324872 ≤ 4 * 208324872 := Nat.mul_le_mul_right _ hn
    omega
  have z6 : (0 : Int64).toInt = 0 := rfl
  unfold ie_ok
  rw [hrow0]
  have h60 : ((nn 0).toInt64).toInt = σ * v 6 := by rw [Int32.toInt_toInt64]; exact hu6
  rcases hgo with ⟨g1, g2⟩ | ⟨g1, g2⟩
  · rw [if_pos (Int64.toInt_inj.mp (by rw [h60, g1]; rfl))]
    intro y
    have := Int64.le_iff_toInt_le.mp y
    rw [f3] at this
    omega
  · rw [if_neg (fun e => by rw [e] at h60; rw [z6] at h60; omega)]
    intro y
    have := Int64.lt_iff_toInt_lt.mp y
    rw [i6_mul (a := 162009) (b := 1000000000) (by omega) f4 (by decide), i6_mul (a := 157464) (b := 1000000000) (by rw [h60]; exact hub 6) hbp (by decide), h60, f3] at this
    omega
end HE
