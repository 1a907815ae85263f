/-! the reference's stack of boxes -/
theorem ka_a {A B : Prop} {r : Int32} (p : tl_ok A r) (h : r = 0) : tl_ok (A ∧ B) 0 := tl_f (fun q => tl_0 p h q.1)
theorem ka_b {A B : Prop} {r : Int32} (p : tl_ok B r) (h : r = 0) : tl_ok (A ∧ B) 0 := tl_f (fun q => tl_0 p h q.2)
theorem ka_c {A B : Prop} {r r2 : Int32} (p : tl_ok A r) (h : ¬ r = 0) (p2 : tl_ok B r2) (h2 : ¬ r2 = 0) : tl_ok (A ∧ B) 1 := tl_t ⟨tl_1 p h, tl_1 p2 h2⟩
def rs_4 (f : Nat → Int32) : Nat → Int32 := fun j => if j < 4 then f j else 0
def sb_l (wa : Nat → Int32) (q : Nat) : Nat → Int32 := fun j => if j < 4 then wa (q + 1 + j) else 0
def sb_u (wa : Nat → Int32) (q : Nat) : Nat → Int32 := fun j => if j < 4 then wa (q + 5 + j) else 0
/-- the END at a node, in a box -/
def mj_s (en : Nat → Int64) (co wt bd : Nat → Int32) (nd k : Nat) (bl bm : Nat → Int32) : Nat → Int64
  | 0 => me_b en bd nd k
  | j + 1 => mj_s en co wt bd nd k bl bm j + me_e en co wt nd j k * (if 0 ≤ me_e en co wt nd j k then bl j else bm j).toInt64
def mj_ok (en : Nat → Int64) (co wt bd : Nat → Int32) (n k : Nat) (pp qp : Int64) (bl bm : Nat → Int32) (nd : Nat) : Prop :=
  (en (7 * nd) = 0 → ¬ mj_s en co wt bd nd k bl bm n ≤ 0) ∧ (¬ en (7 * nd) = 0 → ¬ qp * mj_s en co wt bd nd k bl bm n < en (7 * nd) * pp)
theorem mj_eq {en : Nat → Int64} {co wt bd wa : Nat → Int32} {nd wq k : Nat} : ∀ n, n ≤ 4 → me_s en co wt bd wa nd wq k n = mj_s en co wt bd nd k (sb_l wa wq) (sb_u wa wq) n
  | 0, _ => rfl
  | j + 1, hj => by
    show me_s en co wt bd wa nd wq k j + _ * (me_w wa wq j _).toInt64 = mj_s en co wt bd nd k (sb_l wa wq) (sb_u wa wq) j + _ * _
    rw [mj_eq j (by omega)]
    congr 3
    unfold me_w sb_l sb_u
    by_cases h : 0 ≤ me_e en co wt nd j k
    · rw [if_pos h, if_pos h, if_pos (show j < 4 by omega)]
    · rw [if_neg h, if_neg h, if_pos (show j < 4 by omega)]
theorem mj_iff {en : Nat → Int64} {co wt bd wa : Nat → Int32} {nd wq n k : Nat} {pp qp : Int64} (hn : n ≤ 4) : mi_ok en co wt bd wa nd wq n k pp qp ↔ mj_ok en co wt bd n k pp qp (sb_l wa wq) (sb_u wa wq) nd := by
  unfold mi_ok mj_ok; rw [mj_eq n hn]
def so_ent (wa : Nat → Int32) (m : Nat) : Prop := ∀ i, i < m → ∃ nd, nd < 40 ∧ i ≤ nd ∧ wa (9 * i) = nI nd
def so_all (TS : (Nat → Int32) → (Nat → Int32) → Nat → Prop) (wa : Nat → Int32) (m : Nat) : Prop := ∀ i, i < m → TS (sb_l wa (9 * i)) (sb_u wa (9 * i)) (wa (9 * i)).toNatClampNeg
def so_inv (TS : (Nat → Int32) → (Nat → Int32) → Nat → Prop) (rt : Prop) (wa : Nat → Int32) (m : Nat) : Prop := so_ent wa m ∧ (rt ↔ so_all TS wa m)
/-- what is still to do -/
def so_m (wa : Nat → Int32) : Nat → Nat
  | 0 => 0
  | i + 1 => so_m wa i + 3 ^ (40 - (wa (9 * i)).toNatClampNeg)
theorem so_mk {wa w2 : Nat → Int32} : ∀ m, (∀ i, i < m → w2 (9 * i) = wa (9 * i)) → so_m w2 m = so_m wa m
  | 0, _ => rfl
  | m + 1, h => by
    show so_m w2 m + _ = so_m wa m + _
    rw [so_mk m (fun i hi => h i (by omega)), h m (by omega)]
section SO
variable {TS : (Nat → Int32) → (Nat → Int32) → Nat → Prop} {rt : Prop} {wa w1 : Nat → Int32} {m nd : Nat}
theorem so_pop (h : so_inv TS rt wa (m + 1)) (ht : TS (sb_l wa (9 * m)) (sb_u wa (9 * m)) (wa (9 * m)).toNatClampNeg) : so_inv TS rt wa m :=
  ⟨fun i hi => h.1 i (by omega), h.2.trans ⟨fun q i hi => q i (by omega), fun q i hi => by
    by_cases e : i = m
    · subst e; exact ht
    · exact q i (by omega)⟩⟩
theorem so_no (h : so_inv TS rt wa (m + 1)) (ht : ¬ TS (sb_l wa (9 * m)) (sb_u wa (9 * m)) (wa (9 * m)).toNatClampNeg) : tl_ok rt 0 := tl_f (fun q => ht (h.2.mp q m (by omega)))
theorem so_end (h : so_inv TS rt wa m) (hm : m = 0) : tl_ok rt 1 := tl_t (h.2.mpr (fun i hi => by omega))
theorem so_dec : so_m wa m < so_m wa (m + 1) := Nat.lt_add_of_pos_right (Nat.pow_pos (by decide))
end SO
def cq_f (wa : Nat → Int32) (q t : Nat) : Nat → Int32 := fun i => if q + 9 ≤ i ∧ i < q + 9 + t then wa (i - 9) else wa i
theorem cq_0 {wa : Nat → Int32} {q : Nat} : wa = cq_f wa q 0 := by funext i; unfold cq_f; rw [if_neg (by omega)]
theorem cq_s {wa w1 : Nat → Int32} {q t : Nat} (ht : t < 9) (e : w1 = cq_f wa q t) : upd w1 (q + 9 + t) (w1 (q + t)) = cq_f wa q (t + 1) := by
  have e1 : w1 (q + t) = wa (q + t) := by rw [e]; unfold cq_f; rw [if_neg (by omega)]
  rw [e1]
  funext i
  by_cases h : i = q + 9 + t
  · subst h; rw [pk_us]; unfold cq_f; rw [if_pos (by omega), show q + 9 + t - 9 = q + t by omega]
  · rw [pk_un h, e]; unfold cq_f
    by_cases h2 : q + 9 ≤ i ∧ i < q + 9 + t
    · rw [if_pos h2, if_pos (by omega)]
    · rw [if_neg h2, if_neg (by omega)]
/-- the stack behind a fork -/
def fw_f (wa : Nat → Int32) (q j : Nat) (x y v : Int32) : Nat → Int32 := upd (upd (upd (upd (cq_f wa q 9) q x) (q + 5 + j) v) (q + 9) y) (q + 9 + 1 + j) (v + 1)
theorem fw_lo {wa : Nat → Int32} {q j i : Nat} {x y v : Int32} (h : i < q) : fw_f wa q j x y v i = wa i := by
  unfold fw_f; rw [pk_un (by omega), pk_un (by omega), pk_un (by omega), pk_un (by omega)]; unfold cq_f; rw [if_neg (by omega)]
theorem fw_q {wa : Nat → Int32} {q j : Nat} {x y v : Int32} : fw_f wa q j x y v q = x := by
  unfold fw_f; rw [pk_un (by omega), pk_un (by omega), pk_un (by omega), pk_us]
theorem fw_q9 {wa : Nat → Int32} {q j : Nat} {x y v : Int32} : fw_f wa q j x y v (q + 9) = y := by
  unfold fw_f; rw [pk_un (by omega), pk_us]
theorem fw_l {wa : Nat → Int32} {q j : Nat} {x y v : Int32} (hj : j < 4) : sb_l (fw_f wa q j x y v) q = sb_l wa q := by
  funext i
  unfold sb_l
  by_cases h : i < 4
  · rw [if_pos h, if_pos h]; unfold fw_f; rw [pk_un (by omega), pk_un (by omega), pk_un (by omega), pk_un (by omega)]; unfold cq_f; rw [if_neg (by omega)]
  · rw [if_neg h, if_neg h]
theorem fw_u {wa : Nat → Int32} {q j : Nat} {x y v : Int32} (hj : j < 4) : sb_u (fw_f wa q j x y v) q = upd (sb_u wa q) j v := by
  funext i
  by_cases e : i = j
  · subst e; rw [pk_us]; unfold sb_u; rw [if_pos hj]; unfold fw_f; rw [pk_un (by omega), pk_un (by omega), pk_us]
  · rw [pk_un e]; unfold sb_u
    by_cases h : i < 4
    · rw [if_pos h, if_pos h]; unfold fw_f; rw [pk_un (by omega), pk_un (by omega), pk_un (by omega), pk_un (by omega)]; unfold cq_f; rw [if_neg (by omega)]
    · rw [if_neg h, if_neg h]
theorem fw_l9 {wa : Nat → Int32} {q j : Nat} {x y v : Int32} (hj : j < 4) : sb_l (fw_f wa q j x y v) (q + 9) = upd (sb_l wa q) j (v + 1) := by
  funext i
  by_cases e : i = j
  · subst e; rw [pk_us]; unfold sb_l; rw [if_pos hj]; unfold fw_f; rw [pk_us]
  · rw [pk_un e]; unfold sb_l
    by_cases h : i < 4
    · rw [if_pos h, if_pos h]; unfold fw_f; rw [pk_un (by omega), pk_un (by omega), pk_un (by omega), pk_un (by omega)]; unfold cq_f; rw [if_pos (by omega)]; congr 1; omega
    · rw [if_neg h, if_neg h]
theorem fw_u9 {wa : Nat → Int32} {q j : Nat} {x y v : Int32} (hj : j < 4) : sb_u (fw_f wa q j x y v) (q + 9) = sb_u wa q := by
  funext i
  unfold sb_u
  by_cases h : i < 4
  · rw [if_pos h, if_pos h]; unfold fw_f; rw [pk_un (by omega), pk_un (by omega), pk_un (by omega), pk_un (by omega)]; unfold cq_f; rw [if_pos (by omega)]; congr 1; omega
  · rw [if_neg h, if_neg h]
theorem fw_keep {wa : Nat → Int32} {q j q2 : Nat} {x y v : Int32} (h : q2 + 9 ≤ q) : sb_l (fw_f wa q j x y v) q2 = sb_l wa q2 ∧ sb_u (fw_f wa q j x y v) q2 = sb_u wa q2 := by
  constructor
  · funext i; unfold sb_l
    by_cases hi : i < 4
    · rw [if_pos hi, if_pos hi, fw_lo (by omega)]
    · rw [if_neg hi, if_neg hi]
  · funext i; unfold sb_u
    by_cases hi : i < 4
    · rw [if_pos hi, if_pos hi, fw_lo (by omega)]
    · rw [if_neg hi, if_neg hi]
theorem so_fork {TS : (Nat → Int32) → (Nat → Int32) → Nat → Prop} {rt : Prop} {wa : Nat → Int32} {m nd a b j : Nat} {v : Int32} (h : so_inv TS rt wa (m + 1)) (hj : j < 4) (hn : wa (9 * m) = nI nd) (hnd : nd < 40) (ha : nd < a ∧ a < 40) (hb : nd < b ∧ b < 40) (hm : m ≤ nd)
    (ht : TS (sb_l wa (9 * m)) (sb_u wa (9 * m)) nd ↔ TS (sb_l wa (9 * m)) (upd (sb_u wa (9 * m)) j v) a ∧ TS (upd (sb_l wa (9 * m)) j (v + 1)) (sb_u wa (9 * m)) b) :
    so_inv TS rt (fw_f wa (9 * m) j (nI a) (nI b) v) (m + 1 + 1) ∧ so_m (fw_f wa (9 * m) j (nI a) (nI b) v) (m + 1 + 1) < so_m wa (m + 1) := by
  have e9 : 9 * (m + 1) = 9 * m + 9 := by omega
  have eq0 : fw_f wa (9 * m) j (nI a) (nI b) v (9 * m) = nI a := fw_q
  have eq9 : fw_f wa (9 * m) j (nI a) (nI b) v (9 * (m + 1)) = nI b := by rw [e9]; exact fw_q9
  refine ⟨⟨fun i hi => ?_, h.2.trans ⟨fun q i hi => ?_, fun q i hi => ?_⟩⟩, ?_⟩
  · by_cases h1 : i = m + 1
    · subst h1; exact ⟨b, hb.2, by omega, eq9⟩
    · by_cases h2 : i = m
      · subst h2; exact ⟨a, ha.2, by omega, eq0⟩
      · obtain ⟨x, g1, g2, g3⟩ := h.1 i (by omega)
        exact ⟨x, g1, g2, by rw [fw_lo (by omega)]; exact g3⟩
  · have hq := q m (by omega)
    rw [hn, nI_clamp (by omega)] at hq
    have hq2 := ht.mp hq
    by_cases h1 : i = m + 1
    · subst h1; rw [eq9, nI_clamp (by omega), e9, fw_l9 hj, fw_u9 hj]; exact hq2.2
    · by_cases h2 : i = m
      · subst h2; rw [eq0, nI_clamp (by omega), fw_l hj, fw_u hj]; exact hq2.1
      · have k := fw_keep (wa := wa) (q := 9 * m) (j := j) (q2 := 9 * i) (x := nI a) (y := nI b) (v := v) (by omega)
        rw [k.1, k.2, fw_lo (by omega)]; exact q i (by omega)
  · by_cases h2 : i = m
    · subst h2
      rw [hn, nI_clamp (by omega)]
      have g1 := q i (by omega)
      have g2 := q (i + 1) (by omega)
      rw [eq0, nI_clamp (by omega), fw_l hj, fw_u hj] at g1
      rw [eq9, nI_clamp (by omega), e9, fw_l9 hj, fw_u9 hj] at g2
      exact ht.mpr ⟨g1, g2⟩
    · have g := q i (by omega)
      have k := fw_keep (wa := wa) (q := 9 * m) (j := j) (q2 := 9 * i) (x := nI a) (y := nI b) (v := v) (by omega)
      rw [k.1, k.2, fw_lo (by omega)] at g; exact g
  · show so_m _ m + 3 ^ (40 - (fw_f wa (9 * m) j (nI a) (nI b) v (9 * m)).toNatClampNeg) + 3 ^ (40 - (fw_f wa (9 * m) j (nI a) (nI b) v (9 * (m + 1))).toNatClampNeg) < so_m wa m + 3 ^ (40 - (wa (9 * m)).toNatClampNeg)
    rw [eq0, eq9, hn, nI_clamp (by omega), nI_clamp (by omega), nI_clamp (by omega), so_mk m (fun i hi => fw_lo (by omega))]
    have p1 : 3 ^ (40 - a) ≤ 3 ^ (39 - nd) := Nat.pow_le_pow_right (by decide) (by omega)
    have p2 : 3 ^ (40 - b) ≤ 3 ^ (39 - nd) := Nat.pow_le_pow_right (by decide) (by omega)
    have p3 : 3 ^ (40 - nd) = 3 ^ (39 - nd) * 3 := by rw [show 40 - nd = 39 - nd + 1 by omega]; rfl
    have p4 : 0 < 3 ^ (39 - nd) := Nat.pow_pos (by decide)
    omega
/-! fuel -/
section TF
variable {kd fv : Nat → Int32} {fan fin sen : Nat → Nat} {wh : Nat → Int32} {n : Nat} {ed : (Nat → Int32) → (Nat → Int32) → Nat → Prop}
def tr_up (kd : Nat → Int32) (fin sen : Nat → Nat) : Prop := ∀ i, i < 40 → ¬ kd i = 0 → ¬ kd i = 2 → (i < fin i ∧ fin i < 40) ∧ (i < sen i ∧ sen i < 40)
theorem ts_fuel (hu : tr_up kd fin sen) : ∀ (f g x : Nat) (bl bm : Nat → Int32), x < 40 → 40 - x ≤ f → 40 - x ≤ g → (ts_ok kd fv fan fin sen wh n ed f bl bm x ↔ ts_ok kd fv fan fin sen wh n ed g bl bm x)
  | 0, _, x, _, _, hx, hf, _ => by omega
  | f + 1, 0, x, _, _, hx, _, hg => by omega
  | f + 1, g + 1, x, bl, bm, hx, hf, hg => by
    show (¬ kd x = 0 ∧ if kd x = 2 then _ else _) ↔ (¬ kd x = 0 ∧ if kd x = 2 then _ else _)
    by_cases h0 : kd x = 0
    · exact ⟨fun q => absurd h0 q.1, fun q => absurd h0 q.1⟩
    · by_cases h2 : kd x = 2
      · rw [if_pos h2, if_pos h2]
      · obtain ⟨a1, a2⟩ := hu x hx h0 h2
        rw [if_neg h2, if_neg h2, ts_fuel hu f g (fin x) bl _ a1.2 (by omega) (by omega), ts_fuel hu f g (sen x) _ bm a2.2 (by omega) (by omega)]
/-- a node is sound in a box -/
def tq_ok (kd fv : Nat → Int32) (fan fin sen : Nat → Nat) (wh : Nat → Int32) (n : Nat) (ed : (Nat → Int32) → (Nat → Int32) → Nat → Prop) (bl bm : Nat → Int32) (x : Nat) : Prop := ts_ok kd fv fan fin sen wh n ed 40 bl bm x
theorem tq_eq (hu : tr_up kd fin sen) {bl bm : Nat → Int32} {x : Nat} (hx : x < 40) (h0 : ¬ kd x = 0) (h2 : ¬ kd x = 2) : tq_ok kd fv fan fin sen wh n ed bl bm x ↔ (fan x < n ∧ ¬ wh (fan x) = 0 ∧ ¬ fv x < bl (fan x) ∧ fv x < bm (fan x)) ∧ tq_ok kd fv fan fin sen wh n ed bl (upd bm (fan x) (fv x)) (fin x) ∧ tq_ok kd fv fan fin sen wh n ed (upd bl (fan x) (fv x + 1)) bm (sen x) := by
  obtain ⟨a1, a2⟩ := hu x hx h0 h2
  unfold tq_ok
  rw [← ts_fuel hu 39 40 (fin x) bl (upd bm (fan x) (fv x)) a1.2 (by omega) (by omega), ← ts_fuel hu 39 40 (sen x) (upd bl (fan x) (fv x + 1)) bm a2.2 (by omega) (by omega)]
  show (¬ kd x = 0 ∧ if kd x = 2 then _ else _) ↔ _
  rw [if_neg h2]
  exact ⟨fun q => q.2, fun q => ⟨h0, q⟩⟩
theorem tq_z {bl bm : Nat → Int32} {x : Nat} (h0 : kd x = 0) : ¬ tq_ok kd fv fan fin sen wh n ed bl bm x := fun q => q.1 h0
theorem tq_e {bl bm : Nat → Int32} {x : Nat} (h0 : ¬ kd x = 0) (h2 : kd x = 2) : tq_ok kd fv fan fin sen wh n ed bl bm x ↔ ed bl bm x := by
  show (¬ kd x = 0 ∧ if kd x = 2 then _ else _) ↔ _
  rw [if_pos h2]
  exact ⟨fun q => q.2, fun q => ⟨h0, q⟩⟩
end TF
def sw_f (wa lo hi : Nat → Int32) (t : Nat) : Nat → Int32 := fun i => if i = 0 then 0 else if 1 ≤ i ∧ i < 1 + t then lo (i - 1) else if 5 ≤ i ∧ i < 5 + t then hi (i - 5) else wa i
theorem sw_0 {wa lo hi : Nat → Int32} : upd wa 0 0 = sw_f wa lo hi 0 := by
  funext i
  unfold sw_f
  by_cases h : i = 0
  · subst h; rw [pk_us]; rfl
  · rw [pk_un h, if_neg h, if_neg (by omega), if_neg (by omega)]
theorem sw_s {wa lo hi w1 : Nat → Int32} {t : Nat} (ht : t < 4) (e : w1 = sw_f wa lo hi t) : upd (upd w1 (1 + t) (lo t)) (5 + t) (hi t) = sw_f wa lo hi (t + 1) := by
  funext i
  by_cases h5 : i = 5 + t
  · subst h5; rw [pk_us]; unfold sw_f; rw [if_neg (by omega), if_neg (by omega), if_pos (by omega), show 5 + t - 5 = t by omega]
  · rw [pk_un h5]
    by_cases h1 : i = 1 + t
    · subst h1; rw [pk_us]; unfold sw_f; rw [if_neg (by omega), if_pos (by omega), show 1 + t - 1 = t by omega]
    · rw [pk_un h1, e]; unfold sw_f
      by_cases h0 : i = 0
      · rw [if_pos h0, if_pos h0]
      · rw [if_neg h0, if_neg h0]
        by_cases ha : 1 ≤ i ∧ i < 1 + t
        · rw [if_pos ha, if_pos (by omega)]
        · rw [if_neg ha, if_neg (show ¬ (1 ≤ i ∧ i < 1 + (t + 1)) by omega)]
          by_cases hb : 5 ≤ i ∧ i < 5 + t
          · rw [if_pos hb, if_pos (show 5 ≤ i ∧ i < 5 + (t + 1) by omega)]
          · rw [if_neg hb, if_neg (show ¬ (5 ≤ i ∧ i < 5 + (t + 1)) by omega)]
theorem sw_e {wa lo hi : Nat → Int32} {TS : (Nat → Int32) → (Nat → Int32) → Nat → Prop} : so_inv TS (TS (rs_4 lo) (rs_4 hi) 0) (sw_f wa lo hi 4) 1 := by
  have e0 : sw_f wa lo hi 4 (9 * 0) = nI 0 := by unfold sw_f; rw [if_pos rfl]; rfl
  have el : sb_l (sw_f wa lo hi 4) (9 * 0) = rs_4 lo := by
    funext j; unfold sb_l rs_4
    by_cases h : j < 4
    · rw [if_pos h, if_pos h]; unfold sw_f; rw [if_neg (by omega), if_pos (by omega)]; congr 1; omega
    · rw [if_neg h, if_neg h]
  have eu : sb_u (sw_f wa lo hi 4) (9 * 0) = rs_4 hi := by
    funext j; unfold sb_u rs_4
    by_cases h : j < 4
    · rw [if_pos h, if_pos h]; unfold sw_f; rw [if_neg (by omega), if_neg (by omega), if_pos (by omega)]; congr 1; omega
    · rw [if_neg h, if_neg h]
  refine ⟨fun i hi => ⟨0, by decide, by omega, by rw [show i = 0 by omega]; exact e0⟩, ⟨fun q i hi => ?_, fun q => ?_⟩⟩
  · rw [show i = 0 by omega, e0, el, eu]; exact q
  · have := q 0 (by omega); rw [e0, el, eu] at this; exact this
