/-! the planner's own proof holds -/
def f2_ok (s : sg_T) : Prop := s.1 = 0 → s.2.2.1 = 1 ∧ s.2.2.2.1 = 0
theorem fo_2 {g : Nat → sg_T → sg_T} (hg : ∀ t s, f2_ok s → f2_ok (g t s)) : ∀ (m : Nat) (s : sg_T), f2_ok s → f2_ok (fo_l g m s)
  | 0, _, h => h
  | m + 1, s, h => hg m _ (fo_2 hg m s h)
theorem ci_2 {P : Prop} {x y : sg_T} (hx : f2_ok x) (hy : f2_ok y) : f2_ok (ci_f P x y) := by
  by_cases h : P
  · rw [ci_t h]; exact hx
  · rw [ci_n h]; exact hy
section SC
variable {lo hi wh co : Nat → Int32} {M : Nat → Nat → Int32} {bd vals se : Nat → Int32} {lz : Int32} {wd : Nat → Nat} {n k fr ti : Nat} {s : sg_T}
theorem tc_2 (h : f2_ok s) : f2_ok (tc_s lo hi co M bd vals se n k fr ti s) := ci_2 h (ci_2 (fun q => absurd q (by show ¬ (1 : Int32) = 0; decide)) h)
theorem ts_2f (h : f2_ok s) : f2_ok (ts_s lo hi co M bd vals se n k fr s) := ci_2 (tc_2 h) (fo_2 (fun _ _ h => ci_2 (tc_2 h) h) _ _ h)
theorem st_2 : ∀ (f j fr : Nat) (lc : Int32) (se : Nat → Int32) (s : sg_T), f2_ok s → f2_ok (st_f lo hi wh co M bd vals lz wd n k f j fr lc se s)
  | 0, _, _, _, _, _, h => h
  | f + 1, j, fr, lc, se, s, h => by
    have hl : f2_ok (fo_l (st_g wh co lo lz wd j (lc - lc_f lo hi co j) se (fun c z s => st_f lo hi wh co M bd vals lz wd n k f (j + 1) fr c z s)) (wd j + 1) s) := fo_2 (fun _ _ h => ci_2 (st_2 f _ _ _ _ _ h) h) _ _ h
    exact ci_2 (ci_2 (ts_2f h) (ci_2 (st_2 f _ _ _ _ _ hl) hl)) h
end SC
/-- a box of the planner's proof: what is not whole has its bounds -/
def bo_ok (w : Nat → Prop) (lo hi : Nat → Int32) (n : Nat) (bl bm : Nat → Int32) : Prop := ∀ j, j < n → ((lo j).toInt ≤ (bl j).toInt ∧ (bl j).toInt ≤ (bm j).toInt ∧ (bm j).toInt ≤ (hi j).toInt) ∧ (¬ w j → bl j = lo j ∧ bm j = hi j)
section HB
variable {w : Nat → Prop} {lo hi wh co bd : Nat → Int32} {M : Nat → Nat → Int32} {n k : Nat} {vals : Nat → Int32}
theorem lf_he (hq : pq_ok lo hi co M bd n k) (hm : mn_part vals co M k (2 ^ n) 1) {wc dv cs : Int32} {best r1 t1 : Nat → Int32} (cI : sI_ok w lo hi M bd co n k (wc, best, dv, cs, r1, t1)) (cQ : ∀ d x, 0 < d → ki_ok lo hi M bd n k d x → kn_ok w lo hi M bd n k d x → sQ_ok co n (wc, best, dv, cs, r1, t1) d x) (h2 : wc = 0 → dv = 1 ∧ cs = 0)
    {bl bm : Nat → Int32} (hb : bo_ok w lo hi n bl bm) (hl : ∀ j, j < n → w j → (bl j).toInt = (bm j).toInt) {gs : gt_T} {R : Nat → Int64} {num : Nat → Int32} (hgs : gs = fl_g (gr_f vals co M bd k (th_f wc k)) (2 ^ n) (0, R, num)) : he_ok gs.2.1 gs.1 n cs.toInt64 dv.toInt64 bl bm := by
  have hn := hq.1.2
  have hk := hq.2.1
  have hbd : (0 < dv.toInt ∧ dv.toInt ≤ 162009) ∧ cs.toInt.natAbs ≤ 1000000000 := by
    by_cases z : wc = 0
    · obtain ⟨e1, e2⟩ := h2 z
      rw [e1, e2]; decide
    · obtain ⟨a1, a2, a3, a4⟩ := cI z
      dsimp only at a1 a2 a3
      refine ⟨a1, ?_⟩
      rw [a2]
      refine nb_le (sm_b (c := fun j => (co j).toInt) (x := fun j => (best j).toInt) n (fun j hj => ⟨(hq.2.2.1 j hj).2, ki_b2 hq a1 a3 hj⟩)) ?_
      have := Nat.mul_le_mul_right (9 * 3240180) hn
      omega
  have hbx : ∀ j, j < n → (bl j).toInt.natAbs ≤ 21 ∧ (bm j).toInt.natAbs ≤ 21 := fun j hj => by
    have a := (hb j hj).1
    have b := (hq.2.2.1 j hj).1
    omega
  have hbm : ∀ j, j < n → (bl j).toInt ≤ (bm j).toInt := fun j hj => (hb j hj).1.2.1
  by_cases hf : ∃ (d : Int) (x : Nat → Int), 0 < d ∧ ki_ok bl bm M bd n k d x
  · have claim : ∀ (d : Int) (x : Nat → Int), 0 < d → ki_ok bl bm M bd n k d x → ¬ wc = 0 ∧ cs.toInt * d ≤ sm_f (fun j => (co j).toInt * x j) n * dv.toInt := fun d x hd hki => by
      have hki2 : ki_ok lo hi M bd n k d x := by
        refine ⟨fun j hj => ?_, hki.2⟩
        have a := (hb j hj).1
        have b := hki.1 j hj
        have c1 := Int.mul_le_mul_of_nonneg_right a.1 (Int.le_of_lt hd)
        have c2 := Int.mul_le_mul_of_nonneg_right a.2.2 (Int.le_of_lt hd)
        exact ⟨by omega, by omega⟩
      obtain ⟨e, y, e1, e2, e3, e4⟩ := hb_co (w := w) hq _ d x (Nat.le_refl _) hd hki2 (fun j hj z => ⟨(bl j).toInt, by
        have b := hki.1 j hj
        rw [← hl j hj z] at b
        omega⟩)
      obtain ⟨q1, q2⟩ := cQ e y e1 e2 e3
      refine ⟨q1, ?_⟩
      obtain ⟨a1, a2, a3, a4⟩ := cI q1
      dsimp only at a1 a2 a3 q2
      have hle : cs.toInt * e ≤ sm_f (fun j => (co j).toInt * y j) n * dv.toInt := by
        rcases Int.lt_or_le (sm_f (fun j => (co j).toInt * y j) n * dv.toInt) (cs.toInt * e) with z | z
        · refine absurd ⟨0, Nat.zero_le _, fun i hi => absurd hi (Nat.not_lt_zero _), ?_⟩ q2
          show sm_f (fun j => (co j).toInt * y j) n * dv.toInt < sm_f (fun j => (co j).toInt * (best j).toInt) n * e
          rw [← a2]; exact z
        · exact z
      exact xq_le a1.1 e1 hd hle e4
    obtain ⟨d1, x1, hd1, hk1⟩ := hf
    have hwc := (claim d1 x1 hd1 hk1).1
    obtain ⟨μ, u, m1, m2, m3, m4, m5⟩ := aa_du (co := co) (bd := bd) (M := M) (κ := dv.toInt) (γ := cs.toInt) (by omega) hk hbm (fun d x hd hki => by
      rcases Int.lt_or_le 0 d with z | z
      · rw [Int.mul_comm dv.toInt]; exact (claim d x z hki).2
      · have hd0 : d = 0 := by omega
        subst hd0
        have hx : ∀ j, j < n → x j = 0 := fun j hj => by have := hki.1 j hj; omega
        rw [sm_cg n (g := fun j => (0 : Int) * 0) (fun j hj => by rw [hx j hj, Int.mul_zero]; rfl), sm_mul]
        omega)
    refine he_of hq hm (wc := wc) hbx (by rw [Int32.toInt_toInt64]; exact hbd.2) (by rw [Int32.toInt_toInt64]; exact hbd.1) m2 (fun c hc hT => m4 c ?_ ?_) (Or.inr ⟨?_, ?_⟩) hgs
    · exact Nat.le_of_not_lt (fun z => hT (Or.inl z))
    · have : ¬ c = 6 := fun z => hT (Or.inr ⟨z, hwc⟩)
      omega
    · rw [m3]; exact Int.mul_pos m1 hbd.1.1
    · rw [m3, Int32.toInt_toInt64, Int32.toInt_toInt64]
      have := Int.mul_le_mul_of_nonneg_left m5 (Int.le_of_lt hbd.1.1)
      have e : μ * dv.toInt * cs.toInt = dv.toInt * (μ * cs.toInt) := by grind
      rw [e]; exact this
  · obtain ⟨μ, u, m1, m2, m3, m4, m5⟩ := aa_du (co := co) (bd := bd) (M := M) (κ := 0) (γ := 1) (by omega) hk hbm (fun d x hd hki => by
      rcases Int.lt_or_le 0 d with z | z
      · exact absurd ⟨d, x, z, hki⟩ hf
      · omega)
    rw [Int.mul_zero] at m3
    refine he_of hq hm (wc := wc) hbx (by rw [Int32.toInt_toInt64]; exact hbd.2) (by rw [Int32.toInt_toInt64]; exact hbd.1) m2 (fun c hc hT => ?_) (Or.inl ⟨m3, by omega⟩) hgs
    by_cases z : c = 6
    · rw [z]; exact m3
    · exact m4 c (Nat.le_of_not_lt (fun z => hT (Or.inl z))) (by omega)
theorem fd_b : ∀ t : Fin 101, (fd_f (Int32.ofInt ((t.1 : Int) - 50))).toInt = ((t.1 : Int) - 50) / 2 := by decide +kernel
theorem fd_i {x : Int32} (h : -50 ≤ x.toInt ∧ x.toInt ≤ 50) : (fd_f x).toInt = x.toInt / 2 := by
  have := fd_b ⟨(x.toInt + 50).toNat, by omega⟩
  dsimp only at this
  rw [show (((x.toInt + 50).toNat : Nat) : Int) - 50 = x.toInt by omega, Int32.ofInt_toInt] at this
  exact this
theorem i3_s {x y : Int32} (hx : -100 ≤ x.toInt ∧ x.toInt ≤ 100) (hy : -100 ≤ y.toInt ∧ y.toInt ≤ 100) : (x - y).toInt = x.toInt - y.toInt ∧ (x + y).toInt = x.toInt + y.toInt := by
  rw [Int32.toInt_sub, Int32.toInt_add]
  exact ⟨Int.bmod_eq_of_le (by omega) (by omega), Int.bmod_eq_of_le (by omega) (by omega)⟩
theorem wi_x {bl bm : Nat → Int32} : ∀ m, (∀ j, j < m → (-100 ≤ (bl j).toInt ∧ (bl j).toInt ≤ 100) ∧ (-100 ≤ (bm j).toInt ∧ (bm j).toInt ≤ 100)) → (wi_f wh bl bm m = (-1, 0) ∧ ∀ j, j < m → ¬ wh j = 0 → ¬ (bl j).toInt < (bm j).toInt) ∨ ∃ j, j < m ∧ wi_f wh bl bm m = (nI j, bm j - bl j) ∧ ¬ wh j = 0 ∧ (bl j).toInt < (bm j).toInt
  | 0, _ => Or.inl ⟨rfl, fun j h => absurd h (Nat.not_lt_zero _)⟩
  | m + 1, h => by
    have hm := h m (by omega)
    have es := (i3_s hm.2 hm.1).1
    have z0 : (0 : Int32).toInt = 0 := rfl
    have ih := wi_x (bl := bl) (bm := bm) m (fun j hj => h j (by omega))
    by_cases c : ¬ wh m = 0 ∧ ¬ bm m - bl m ≤ (wi_f wh bl bm m).2
    · right
      have e : wi_f wh bl bm (m + 1) = (nI m, bm m - bl m) := if_pos c
      refine ⟨m, by omega, e, c.1, ?_⟩
      have y : ¬ (bm m - bl m).toInt ≤ (wi_f wh bl bm m).2.toInt := fun q => c.2 (Int32.le_iff_toInt_le.mpr q)
      rcases ih with ⟨e1, -⟩ | ⟨j, hj, e1, -, e3⟩
      · rw [e1] at y
        dsimp only at y
        omega
      · rw [e1] at y
        dsimp only at y
        have hj' := h j (by omega)
        rw [(i3_s hj'.2 hj'.1).1] at y
        omega
    · have e : wi_f wh bl bm (m + 1) = wi_f wh bl bm m := if_neg c
      rw [e]
      rcases ih with ⟨e1, e2⟩ | ⟨j, hj, e1, e2, e3⟩
      · refine Or.inl ⟨e1, fun j hj hw hlt => ?_⟩
        by_cases y : j = m
        · subst y
          refine c ⟨hw, fun q => ?_⟩
          have := Int32.le_iff_toInt_le.mp q
          rw [e1] at this
          dsimp only at this
          omega
        · exact e2 j (by omega) hw hlt
      · exact Or.inr ⟨j, by omega, e1, e2, e3⟩
def sw_i (wh bl bm : Nat → Int32) (n : Nat) : Int := sm_f (fun j => if wh j = 0 then 0 else (bm j).toInt - (bl j).toInt) n
theorem ps_all {he : (Nat → Int32) → (Nat → Int32) → Prop} (hq : pq_ok lo hi co M bd n k) (hhe : ∀ bl bm, bo_ok (fun j => ¬ wh j = 0) lo hi n bl bm → (∀ j, j < n → ¬ wh j = 0 → (bl j).toInt = (bm j).toInt) → he bl bm) : ∀ (f : Nat) (bl bm : Nat → Int32), bo_ok (fun j => ¬ wh j = 0) lo hi n bl bm → sw_i wh bl bm n ≤ f → ps_ok he (fun x8 y8 => (wi_f wh x8 y8 n).1) n (f + 1) bl bm := by
  intro f
  induction f with
  | zero =>
    intro bl bm hb hs
    refine Or.inl (hhe bl bm hb (fun j hj hw => Classical.byContradiction fun z => ?_))
    have := (hb_sp n (fun j => -(if wh j = 0 then 0 else (bm j).toInt - (bl j).toInt)) (fun c hc => by
      have := (hb c hc).1
      split <;> omega)).2 ⟨j, hj, by have := (hb j hj).1; rw [if_neg hw]; omega⟩
    rw [sm_cg n (g := fun j => (if wh j = 0 then 0 else (bm j).toInt - (bl j).toInt) * (-1)) (fun c _ => by omega), sm_mul] at this
    unfold sw_i at hs
    omega
  | succ f ih =>
    intro bl bm hb hs
    by_cases hH : he bl bm
    · exact Or.inl hH
    · right
      have hbb : ∀ j, j < n → (-100 ≤ (bl j).toInt ∧ (bl j).toInt ≤ 100) ∧ (-100 ≤ (bm j).toInt ∧ (bm j).toInt ≤ 100) := fun j hj => by
        have a := (hb j hj).1
        have b := (hq.2.2.1 j hj).1
        omega
      obtain ⟨j, hj, ew, hwj, hlt⟩ : ∃ j, j < n ∧ wi_f wh bl bm n = (nI j, bm j - bl j) ∧ ¬ wh j = 0 ∧ (bl j).toInt < (bm j).toInt := by
        rcases wi_x (wh := wh) (bl := bl) (bm := bm) n hbb with ⟨-, h⟩ | h
        · refine absurd (hhe bl bm hb (fun j hj hw => ?_)) hH
          have := h j hj hw
          have := (hb j hj).1
          omega
        · exact h
      have a := (hb j hj).1
      have b := (hq.2.2.1 j hj).1
      have esum := (i3_s (hbb j hj).1 (hbb j hj).2).2
      have efd : (fd_f (bl j + bm j)).toInt = ((bl j).toInt + (bm j).toInt) / 2 := by rw [fd_i (by omega), esum]
      have ef1 : (fd_f (bl j + bm j) + 1).toInt = ((bl j).toInt + (bm j).toInt) / 2 + 1 := by
        rw [(i3_s (y := 1) (by omega) (by decide)).2, efd]; rfl
      refine ⟨by omega, j, hj, by show (wi_f wh bl bm n).1 = nI j; rw [ew], ?_, ?_⟩
      · refine ih bl (upd bm j (fd_f (bl j + bm j))) (fun i hi' => ?_) ?_
        · by_cases e : i = j
          · subst e
            rw [pk_us, efd]
            exact ⟨by omega, fun q => absurd hwj q⟩
          · rw [pk_un e]; exact hb i hi'
        · unfold sw_i
          rw [sm_at (j := j) (f := fun j => if wh j = 0 then 0 else (bm j).toInt - (bl j).toInt) n hj (fun i _ e => by rw [pk_un e]), if_neg hwj, pk_us, efd, if_neg hwj]
          unfold sw_i at hs
          omega
      · refine ih (upd bl j (fd_f (bl j + bm j) + 1)) bm (fun i hi' => ?_) ?_
        · by_cases e : i = j
          · subst e
            rw [pk_us, ef1]
            exact ⟨by omega, fun q => absurd hwj q⟩
          · rw [pk_un e]; exact hb i hi'
        · unfold sw_i
          rw [sm_at (j := j) (f := fun j => if wh j = 0 then 0 else (bm j).toInt - (bl j).toInt) n hj (fun i _ e => by rw [pk_un e]), if_neg hwj, pk_us, ef1, if_neg hwj]
          unfold sw_i at hs
          omega
end HB
theorem lj_hb : lj_Hb := by
  intro zp zs yp hj hlz hc bl bm gs R num hcl hcm hgs
  have hq := pq_z hj
  obtain ⟨hm1, se, best0, rests0, trial0, rests1, trial1, hst⟩ := hc
  obtain ⟨cI, cQ⟩ := cls_fin hq hm1 (jp_w hj) hst
  have h2 : f2_ok (zs.2.2.1, zs.2.2.2.2.2.1, zs.2.2.2.1, zs.2.2.2.2.1, rests1, trial1) := by
    rw [hst]; exact st_2 _ _ _ _ _ _ (fun _ => ⟨rfl, rfl⟩)
  have hw : ∀ j, wk_ok zp.2.2.2.2.1 zs.2.1 j ↔ ¬ zp.2.2.2.2.1 j = 0 := fun j => by unfold wk_ok; exact ⟨fun h => h.2, fun h => ⟨hlz, h⟩⟩
  have h4 : zp.1 ≤ 4 := hj.1.2
  refine ps_all (lo := zp.2.2.1) (hi := zp.2.2.2.1) (wh := zp.2.2.2.2.1) hq (fun bl bm hb hl => ?_) 32 bl bm (fun j hj' => ?_) ?_
  · exact lf_he hq hm1 cI cQ h2 (fun j hj => ⟨(hb j hj).1, fun z => (hb j hj).2 (fun y => z ((hw j).mpr y))⟩) (fun j hj z => hl j hj ((hw j).mp z)) hgs
  · have b := (hq.2.2.1 j hj').1
    rw [hcl j (by omega), hcm j (by omega)]
    exact ⟨by omega, fun _ => ⟨rfl, rfl⟩⟩
  · have hle : sw_i zp.2.2.2.2.1 bl bm zp.1 ≤ sm_f (fun _ => 8) zp.1 := by
      refine sm_le zp.1 (fun j hj' => ?_)
      obtain ⟨a, -⟩ := hj.2.2.2.2.1 j (by omega)
      have b := ja_i a
      rw [hcl j (by omega), hcm j (by omega)]
      by_cases z : zp.2.2.2.2.1 j = 0
      · rw [if_pos z]; decide
      · rw [if_neg z]
        have c := a.2.2.2.1.resolve_left z
        have d : ¬ 8 < (zp.2.2.2.1 j - zp.2.2.1 j).toInt := fun y => c (Int32.lt_iff_toInt_lt.mpr y)
        omega
    have h8 : ∀ m, sm_f (fun _ => 8) m = 8 * (m : Int) := fun m => by
      induction m with
      | zero => rfl
      | succ m ih => show sm_f (fun _ => 8) m + 8 = _; rw [ih]; omega
    rw [h8] at hle
    show sw_i zp.2.2.2.2.1 bl bm zp.1 ≤ ((32 : Nat) : Int)
    omega
