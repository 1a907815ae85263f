/-! the law's cases in pure terms: keeps, sound -/
theorem tt_0 {P P' : Prop} {x : Int64} {r : Int32} (e : P ↔ P') (a : tL_ok P x) (b : tl_ok P' r) (h : r = 0) : x = 0 := a.2 (fun q => tl_0 b h (e.mp q))
theorem tt_1 {P P' : Prop} {x : Int64} {r : Int32} (e : P ↔ P') (a : tL_ok P x) (b : tl_ok P' r) (h : ¬ r = 0) : x = 1 := a.1 (e.mpr (tl_1 b h))
theorem td_np {a b : Int} (ha : a ≤ 0) (hb : 0 ≤ b) : a.tdiv b ≤ 0 := by
  have h := Int.tdiv_nonneg (a := -a) (b := b) (by omega) hb
  rw [Int.neg_tdiv] at h
  omega
theorem rm_32 (x q : Int32) (hq : 1 ≤ q.toInt) : x - x / q * q = 0 ↔ x.toInt.tmod q.toInt = 0 := by
  have h1 := x.le_toInt
  have h2 := x.toInt_lt
  have h3 := q.toInt_lt
  have e : q.toInt * x.toInt.tdiv q.toInt + x.toInt.tmod q.toInt = x.toInt := Int.mul_tdiv_add_tmod _ _
  have m1 : (x.toInt.tmod q.toInt).natAbs ≤ x.toInt.natAbs := by rw [Int.natAbs_tmod]; exact Nat.mod_le _ _
  have m2 : (x.toInt.tdiv q.toInt).natAbs ≤ x.toInt.natAbs := by rw [Int.natAbs_tdiv]; exact Nat.div_le_self _ _
  have m3 : (x.toInt.tdiv q.toInt * q.toInt).natAbs ≤ x.toInt.natAbs := by
    rw [Int.natAbs_mul, Int.natAbs_tdiv]; exact Nat.div_mul_le_self _ _
  have d1 : (x / q).toInt = x.toInt.tdiv q.toInt := by
    rw [Int32.toInt_div]
    refine Int.bmod_eq_of_le (by omega) ?_
    rcases Int.lt_or_le (x.toInt.tdiv q.toInt) (2 ^ 31) with h | h
    · omega
    · exfalso
      have p : x.toInt.tdiv q.toInt * 1 ≤ x.toInt.tdiv q.toInt * q.toInt := Int.mul_le_mul_of_nonneg_left hq (by omega)
      have p2 : x.toInt.natAbs = 2 ^ 31 := by omega
      have p3 : x.toInt = -(2 ^ 31) := by omega
      have p4 : x.toInt.tdiv q.toInt ≤ 0 := by rw [p3]; exact td_np (by decide) (by omega)
      omega
  have d2 : (x / q * q).toInt = x.toInt.tdiv q.toInt * q.toInt := by
    rw [Int32.toInt_mul, d1]
    refine Int.bmod_eq_of_le (by omega) ?_
    have := Int.mul_comm (x.toInt.tdiv q.toInt) q.toInt
    rcases Int.lt_or_le (x.toInt.tdiv q.toInt * q.toInt) (2 ^ 31) with h | h
    · omega
    · exfalso
      have p2 : x.toInt = -(2 ^ 31) := by omega
      have p4 : x.toInt.tdiv q.toInt ≤ 0 := by rw [p2]; exact td_np (by decide) (by omega)
      have : x.toInt.tdiv q.toInt * q.toInt ≤ 0 := Int.mul_nonpos_of_nonpos_of_nonneg p4 (by omega)
      omega
  have d3 : (x - x / q * q).toInt = x.toInt.tmod q.toInt := by
    rw [Int32.toInt_sub, d2]
    have := Int.mul_comm (x.toInt.tdiv q.toInt) q.toInt
    rw [show x.toInt - x.toInt.tdiv q.toInt * q.toInt = x.toInt.tmod q.toInt by omega]
    have hb : (x.toInt.tmod q.toInt).natAbs < q.toInt.natAbs := by rw [Int.natAbs_tmod]; exact Nat.mod_lt _ (by omega)
    exact Int.bmod_eq_of_le (by omega) (by omega)
  constructor
  · intro h; rw [h] at d3; rw [← d3]; rfl
  · intro h; rw [h] at d3; exact Int32.toInt_inj.mp (by rw [d3]; rfl)
theorem rm_64 (x q : Int64) (hq : 1 ≤ q.toInt) : x - x / q * q = 0 ↔ x.toInt.tmod q.toInt = 0 := by
  have h1 := x.le_toInt
  have h2 := x.toInt_lt
  have h3 := q.toInt_lt
  have e : q.toInt * x.toInt.tdiv q.toInt + x.toInt.tmod q.toInt = x.toInt := Int.mul_tdiv_add_tmod _ _
  have m2 : (x.toInt.tdiv q.toInt).natAbs ≤ x.toInt.natAbs := by rw [Int.natAbs_tdiv]; exact Nat.div_le_self _ _
  have m3 : (x.toInt.tdiv q.toInt * q.toInt).natAbs ≤ x.toInt.natAbs := by
    rw [Int.natAbs_mul, Int.natAbs_tdiv]; exact Nat.div_mul_le_self _ _
  have d1 : (x / q).toInt = x.toInt.tdiv q.toInt := by
    rw [Int64.toInt_div]
    refine Int.bmod_eq_of_le (by omega) ?_
    rcases Int.lt_or_le (x.toInt.tdiv q.toInt) (2 ^ 63) with h | h
    · omega
    · exfalso
      have p3 : x.toInt = -(2 ^ 63) := by omega
      have p4 : x.toInt.tdiv q.toInt ≤ 0 := by rw [p3]; exact td_np (by decide) (by omega)
      omega
  have d2 : (x / q * q).toInt = x.toInt.tdiv q.toInt * q.toInt := by
    rw [Int64.toInt_mul, d1]
    refine Int.bmod_eq_of_le (by omega) ?_
    rcases Int.lt_or_le (x.toInt.tdiv q.toInt * q.toInt) (2 ^ 63) with h | h
    · omega
    · exfalso
      have p2 : x.toInt = -(2 ^ 63) := by omega
      have p4 : x.toInt.tdiv q.toInt ≤ 0 := by rw [p2]; exact td_np (by decide) (by omega)
      have : x.toInt.tdiv q.toInt * q.toInt ≤ 0 := Int.mul_nonpos_of_nonpos_of_nonneg p4 (by omega)
      omega
  have d3 : (x - x / q * q).toInt = x.toInt.tmod q.toInt := by
    rw [Int64.toInt_sub, d2]
    have := Int.mul_comm (x.toInt.tdiv q.toInt) q.toInt
    rw [show x.toInt - x.toInt.tdiv q.toInt * q.toInt = x.toInt.tmod q.toInt by omega]
    have hb : (x.toInt.tmod q.toInt).natAbs < q.toInt.natAbs := by rw [Int.natAbs_tmod]; exact Nat.mod_lt _ (by omega)
    exact Int.bmod_eq_of_le (by omega) (by omega)
  constructor
  · intro h; rw [h] at d3; rw [← d3]; rfl
  · intro h; rw [h] at d3; exact Int64.toInt_inj.mp (by rw [d3]; rfl)
theorem rm_iff (x q : Int32) (hq : 1 ≤ q.toInt) : x - x / q * q = 0 ↔ x.toInt64 - x.toInt64 / q.toInt64 * q.toInt64 = 0 := by
  rw [rm_32 x q hq, rm_64 _ _ (by rw [Int32.toInt_toInt64]; exact hq), Int32.toInt_toInt64, Int32.toInt_toInt64]
theorem td_at {td : Nat → Int32} {x0 x1 x2 x3 : Int32} {j : Nat} (hj : j < 4) : upd (upd (upd (upd td 0 x0) 1 x1) 2 x2) 3 x3 j = pk_f j x0 x1 x2 x3 := by
  rcases (show j = 0 ∨ j = 1 ∨ j = 2 ∨ j = 3 by omega) with rfl | rfl | rfl | rfl <;> simp [upd, pk_f]
theorem wg_mw {row x w : Nat → Int32} {y : Nat → Int64} : ∀ n, (∀ j, j < n → w j = row j ∧ y j = (x j).toInt64) → wg_sum row x n = mw_sum w y n
  | 0, _ => rfl
  | n + 1, h => by
    show wg_sum row x n + _ = mw_sum w y n + _
    rw [wg_mw n (fun j hj => h j (by omega)), (h n (by omega)).1, (h n (by omega)).2]
section KE
variable {zp : lj_P} {zt : lj_T} {zs : lj_S} {yp : lj_Q} {yt : lj_U} {ys : lj_V}
theorem ke_iff (h : lj_JJ zp zt zs yp yt ys) {x0 x1 x2 x3 qv : Int32} (hq : kq_ok x0 x1 x2 x3 qv 4) {td : Nat → Int32} {tr tr1 : Nat → Int64} (ht : tr1 = ml_f (fun j9 => (pk_f j9 x0 x1 x2 x3).toInt64) tr yp.1) :
    (wd_ok zp.2.2.2.2.1 (upd (upd (upd (upd td 0 x0) 1 x1) 2 x2) 3 x3) qv zp.1 ∧ kp_ok zp.2.2.1 zp.2.2.2.1 zp.2.2.2.2.2.2.1 zp.2.2.2.2.2.2.2 (upd (upd (upd (upd td 0 x0) 1 x1) 2 x2) 3 x3) qv zp.1 zp.2.1) ↔
    (kw_ok yp.2.2.2.2.1 x0 x1 x2 x3 qv yp.1 ∧ mp_ok yp.2.2.1 yp.2.2.2.1 yp.2.2.2.2.2.2.1 yp.2.2.2.2.2.2.2 tr1 qv.toInt64 yp.1 yp.2.1) := by
  obtain ⟨⟨h1, h2, h3, h4, h5, h6⟩, -, -⟩ := h
  have q1 : 1 ≤ qv.toInt := by
    have := Int32.le_iff_toInt_le.mp hq.1.1
    have a : (1 : Int32).toInt = 1 := rfl
    omega
  have q0 : ¬ qv = 0 := fun e => by rw [e] at q1; exact absurd q1 (by decide)
  have htr : ∀ j, j < yp.1 → tr1 j = (upd (upd (upd (upd td 0 x0) 1 x1) 2 x2) 3 x3 j).toInt64 := fun j hj => by
    rw [ht, td_at (by omega)]; unfold ml_f; rw [if_pos hj]
  rw [h3] at htr
  rw [h3, h4]
  refine and_congr ?_ (and_congr ?_ ?_)
  · unfold wd_ok kw_ok
    constructor
    · intro w i hi
      by_cases z : yp.2.2.2.2.1 i = 0
      · exact Or.inl z
      · right
        rw [← rm_iff _ _ q1, ← td_at (td := td) (by omega)]
        exact w i hi (fun q => z ((h5 i (by omega)).2.2.2.1.trans q)) q0
    · intro w i hi hw _
      rcases w i hi with z | z
      · exact absurd ((h5 i (by omega)).2.2.2.1.symm.trans z) hw
      · rw [td_at (by omega), rm_iff _ _ q1]; exact z
  · unfold kb_ok mp_b
    refine forall_congr' fun j => forall_congr' fun hj => ?_
    rw [htr j hj, (h5 j (by omega)).2.1, (h5 j (by omega)).2.2.1]
  · unfold kl_ok mp_l
    refine forall_congr' fun i => forall_congr' fun hi => ?_
    rw [wg_mw zp.1 (fun j hj => ⟨((h6 i hi).1 j (by omega)).2.2, htr j hj⟩), (h6 i hi).2.2]
end KE
section SD
variable {en co bd : Nat → Int32} {M : Nat → Nat → Int32} {e2 : Nat → Int64} {co2 wt bd2 : Nat → Int32} {nd k : Nat}
theorem ed_e (he : ∀ y, y < 280 → e2 y = (en y).toInt64) (hnd : nd < 40) {j : Nat} (hc : co2 j = co j) : ∀ i, i ≤ 6 → (∀ a, a < i → wt (4 * a + j) = M a j) → en_e en (nd * 7) (en (nd * 7)).toInt64 (co j) (fun i9 => M i9 j) i = me_e e2 co2 wt nd j i
  | 0, _, _ => by
    show (en (nd * 7)).toInt64 * (co j).toInt64 = e2 (7 * nd) * (co2 j).toInt64
    rw [he (7 * nd) (by omega), hc, show 7 * nd = nd * 7 by omega]
  | i + 1, hi, hw => by
    show en_e en (nd * 7) _ _ _ i + (en (nd * 7 + 1 + i)).toInt64 * (M i j).toInt64 = me_e e2 co2 wt nd j i + e2 (7 * nd + 1 + i) * (wt (4 * i + j)).toInt64
    rw [ed_e he hnd hc i (by omega) (fun a ha => hw a (by omega)), he (7 * nd + 1 + i) (by omega), hw i (by omega), show 7 * nd + 1 + i = nd * 7 + 1 + i by omega]
theorem ed_b (he : ∀ y, y < 280 → e2 y = (en y).toInt64) (hnd : nd < 40) : ∀ i, i ≤ 6 → (∀ a, a < i → bd2 a = bd a) → -(en_b en (nd * 7) bd i) = me_b e2 bd2 nd i
  | 0, _, _ => by show -(0 : Int64) = 0; decide
  | i + 1, hi, hw => by
    show -(en_b en (nd * 7) bd i + (en (nd * 7 + 1 + i)).toInt64 * (bd i).toInt64) = me_b e2 bd2 nd i - e2 (7 * nd + 1 + i) * (bd2 i).toInt64
    rw [← ed_b he hnd i (by omega) (fun a ha => hw a (by omega)), he (7 * nd + 1 + i) (by omega), hw i (by omega), show 7 * nd + 1 + i = nd * 7 + 1 + i by omega, Int64.neg_add, Int64.sub_eq_add_neg]
theorem ed_s (he : ∀ y, y < 280 → e2 y = (en y).toInt64) (hnd : nd < 40) (hk : k ≤ 6) (hb : ∀ a, a < k → bd2 a = bd a) {bl bm bl2 bm2 : Nat → Int32} (hbl : ∀ j, j < 4 → bl2 j = bl j ∧ bm2 j = bm j) (hc : ∀ j, j < 4 → co2 j = co j) (hw : ∀ a j, a < k → j < 4 → wt (4 * a + j) = M a j) :
    ∀ j, j ≤ 4 → ie_s (er_row en (nd * 7) co M bd k) 0 bl bm j = mj_s e2 co2 wt bd2 nd k bl2 bm2 j
  | 0, _ => by
    show -(er_row en (nd * 7) co M bd k 5) = me_b e2 bd2 nd k
    unfold er_row
    rw [if_neg (by decide), if_neg (by decide)]
    exact ed_b he hnd k hk hb
  | j + 1, hj => by
    show ie_s _ 0 bl bm j + er_row en (nd * 7) co M bd k (0 + 1 + j) * _ = mj_s e2 co2 wt bd2 nd k bl2 bm2 j + _
    rw [ed_s he hnd hk hb hbl hc hw j (by omega)]
    have e1 : er_row en (nd * 7) co M bd k (0 + 1 + j) = me_e e2 co2 wt nd j k := by
      unfold er_row
      rw [if_neg (by omega), if_pos (by omega), show 0 + 1 + j - 1 = j by omega]
      exact ed_e he hnd (hc j (by omega)) k hk (fun a ha => hw a j ha (by omega))
    rw [e1, (hbl j (by omega)).1, (hbl j (by omega)).2]
    congr 3
    by_cases z : me_e e2 co2 wt nd j k < 0
    · rw [if_pos z, if_neg (mm_ltn z)]
    · rw [if_neg z, if_pos (mm_nlt z)]
theorem ed_iff (he : ∀ y, y < 280 → e2 y = (en y).toInt64) (hnd : nd < 40) {n : Nat} (hn : n ≤ 4) (hk : k ≤ 6) (hb : ∀ a, a < k → bd2 a = bd a) {bl bm bl2 bm2 : Nat → Int32} (hbl : ∀ j, j < 4 → bl2 j = bl j ∧ bm2 j = bm j) (hc : ∀ j, j < 4 → co2 j = co j) (hw : ∀ a j, a < k → j < 4 → wt (4 * a + j) = M a j) {bp bq : Int64} :
    ed_ok en co M bd n k bp bq bl bm nd ↔ mj_ok e2 co2 wt bd2 n k bp bq bl2 bm2 nd := by
  unfold ed_ok ie_ok mj_ok
  have e0 : er_row en (nd * 7) co M bd k 0 = e2 (7 * nd) := by
    unfold er_row
    rw [if_pos rfl, he (7 * nd) (by omega), show 7 * nd = nd * 7 by omega]
  rw [e0, ed_s he hnd hk hb hbl hc hw n hn]
  by_cases z : e2 (7 * nd) = 0
  · rw [if_pos z]; exact ⟨fun q => ⟨fun _ => q, fun w => absurd z w⟩, fun q => q.1 z⟩
  · rw [if_neg z]; exact ⟨fun q => ⟨fun w => absurd w z, fun _ => q⟩, fun q => q.2 z⟩
end SD
theorem ts_iff {kd fv kd2 fv2 wh wh2 : Nat → Int32} {fan fin sen : Nat → Nat} {n : Nat} {ed ed2 : (Nat → Int32) → (Nat → Int32) → Nat → Prop} (hk : ∀ x, x < 40 → kd2 x = kd x ∧ fv2 x = fv x ∧ fan x < 4 ∧ fin x < 40 ∧ sen x < 40) (hw : ∀ j, j < 4 → wh2 j = wh j)
    (hed : ∀ bl bm bl2 bm2 : Nat → Int32, (∀ j, j < 4 → bl2 j = bl j ∧ bm2 j = bm j) → ∀ x, x < 40 → (ed bl bm x ↔ ed2 bl2 bm2 x)) :
    ∀ (f : Nat) (bl bm bl2 bm2 : Nat → Int32), (∀ j, j < 4 → bl2 j = bl j ∧ bm2 j = bm j) → ∀ x, x < 40 → (ts_ok kd fv fan fin sen wh n ed f bl bm x ↔ ts_ok kd2 fv2 fan fin sen wh2 n ed2 f bl2 bm2 x)
  | 0, _, _, _, _, _, _, _ => Iff.rfl
  | f + 1, bl, bm, bl2, bm2, hb, x, hx => by
    obtain ⟨a1, a2, a3, a4, a5⟩ := hk x hx
    unfold ts_ok
    rw [a1, a2, hw _ a3, (hb _ a3).1, (hb _ a3).2]
    refine and_congr Iff.rfl ?_
    by_cases z : kd x = 2
    · rw [if_pos z, if_pos z]; exact hed bl bm bl2 bm2 hb x hx
    · rw [if_neg z, if_neg z]
      refine and_congr Iff.rfl (and_congr (ts_iff hk hw hed f _ _ _ _ (fun j hj => ⟨(hb j hj).1, ?_⟩) _ a4) (ts_iff hk hw hed f _ _ _ _ (fun j hj => ⟨?_, (hb j hj).2⟩) _ a5))
      · by_cases e : j = fan x
        · rw [e, pk_us, pk_us]
        · rw [pk_un e, pk_un e]; exact (hb j hj).2
      · by_cases e : j = fan x
        · rw [e, pk_us, pk_us]
        · rw [pk_un e, pk_un e]; exact (hb j hj).1
def lj_fan (f : Nat → Int32) : Nat → Nat := fun x => (f x).toNatClampNeg
section SD2
variable {zp : lj_P} {zt : lj_T} {zs : lj_S} {yp : lj_Q} {yt : lj_U} {ys : lj_V}
theorem jt_fa (h : lj_JJ zp zt zs yp yt ys) : ∀ i9, i9 < 40 → zt.2.1 i9 = nI (lj_fan zt.2.1 i9) ∧ lj_fan zt.2.1 i9 < 4 := fun x hx => by
  have a := (h.2.1.1 x hx).2.2.1.1
  obtain ⟨e, b⟩ := in_nat (n := 3) (by decide) a
  exact ⟨e, by unfold lj_fan; omega⟩
theorem jt_nd (h : lj_JJ zp zt zs yp yt ys) : ∀ i9, i9 < 40 → (zt.2.2.2.1 i9 = nI (lj_fan zt.2.2.2.1 i9) ∧ lj_fan zt.2.2.2.1 i9 < 40) ∧ (zt.2.2.2.2.1 i9 = nI (lj_fan zt.2.2.2.2.1 i9) ∧ lj_fan zt.2.2.2.2.1 i9 < 40) := fun x hx => ⟨nd_nat (h.2.1.1 x hx).2.2.2.2.1.1, nd_nat (h.2.1.1 x hx).2.2.2.2.2.1.1⟩
theorem jt_up (h : lj_JJ zp zt zs yp yt ys) : tr_up yt.1 (lj_fan zt.2.2.2.1) (lj_fan zt.2.2.2.2.1) := by
  intro x hx h0 h2
  obtain ⟨a1, a2, a3, a4, a5, a6, a7⟩ := h.2.1.1 x hx
  obtain ⟨⟨b1, b2⟩, c1, c2⟩ := jt_nd h x hx
  have k1 : zt.1 x = 1 := by
    rw [a2] at h0 h2
    rcases a1 with z | z | z
    · exact absurd z h0
    · exact z
    · exact absurd z h2
  obtain ⟨d1, d2⟩ := a7 k1
  rw [b1] at d1
  rw [c1] at d2
  exact ⟨⟨(nI_ltI (by omega) (by omega)).mp d1, b2⟩, (nI_ltI (by omega) (by omega)).mp d2, c2⟩
theorem sd_iff (h : lj_JJ zp zt zs yp yt ys) {bl bm : Nat → Int32} (hb : cp_ok bl zp.2.2.1 4 ∧ cp_ok bm zp.2.2.2.1 4) {bp bq : Int64} :
    ts_ok zt.1 zt.2.2.1 (lj_fan zt.2.1) (lj_fan zt.2.2.2.1) (lj_fan zt.2.2.2.2.1) zp.2.2.2.2.1 zp.1 (ed_ok zt.2.2.2.2.2 zp.2.2.2.2.2.1 zp.2.2.2.2.2.2.1 zp.2.2.2.2.2.2.2 zp.1 zp.2.1 bp bq) 40 bl bm 0 ↔
    tq_ok yt.1 yt.2.2.1 (lj_fan zt.2.1) (lj_fan zt.2.2.2.1) (lj_fan zt.2.2.2.2.1) yp.2.2.2.2.1 yp.1 (mj_ok yt.2.2.2.2.2 yp.2.2.2.2.2.1 yp.2.2.2.2.2.2.1 yp.2.2.2.2.2.2.2 yp.1 yp.2.1 bp bq) (rs_4 yp.2.2.1) (rs_4 yp.2.2.2.1) 0 := by
  have hh := h
  obtain ⟨⟨h1, h2, h3, h4, h5, h6⟩, ht, -⟩ := h
  unfold tq_ok
  rw [h3, h4]
  refine ts_iff (fun x hx => ⟨(ht.1 x hx).2.1, (ht.1 x hx).2.2.2.1.2, (jt_fa hh x hx).2, (jt_nd hh x hx).1.2, (jt_nd hh x hx).2.2⟩) (fun j hj => (h5 j hj).2.2.2.1) (fun b1 b2 b3 b4 hb9 x hx => ?_) 40 _ _ _ _ (fun j hj => ?_) 0 (by decide)
  · exact ed_iff (fun y hy => (ht.2 y hy).2) hx h1.2 h2 (fun a ha => (h6 a ha).2.2) hb9 (fun j hj => (h5 j hj).2.2.2.2) (fun a j ha hj => ((h6 a ha).1 j hj).2.2)
  · unfold rs_4
    rw [if_pos hj, if_pos hj, hb.1 j hj, hb.2 j hj]
    exact ⟨(h5 j hj).2.1, (h5 j hj).2.2.1⟩
end SD2
