/-! what the law carries around its loop, in pure terms: the same problem, the same tree, the same last solution -/
def ja_ok (lo hi wh co : Int32) : Prop := (in_ok lo (-20) 20 ∧ in_ok hi (-20) 20) ∧ ¬ hi < lo ∧ (wh = 0 ∨ wh = 1) ∧ (wh = 0 ∨ ¬ 8 < hi - lo) ∧ in_ok co (-9) 9
def jp_ok (zp : lj_P) (yp : lj_Q) : Prop :=
  (1 ≤ zp.1 ∧ zp.1 ≤ 4) ∧ zp.2.1 ≤ 6 ∧ yp.1 = zp.1 ∧ yp.2.1 = zp.2.1 ∧
  (∀ j, j < 4 → ja_ok (zp.2.2.1 j) (zp.2.2.2.1 j) (zp.2.2.2.2.1 j) (zp.2.2.2.2.2.1 j) ∧ yp.2.2.1 j = zp.2.2.1 j ∧ yp.2.2.2.1 j = zp.2.2.2.1 j ∧ yp.2.2.2.2.1 j = zp.2.2.2.2.1 j ∧ yp.2.2.2.2.2.1 j = zp.2.2.2.2.2.1 j) ∧
  (∀ i, i < zp.2.1 → (∀ j, j < 4 → in_ok (zp.2.2.2.2.2.2.1 i j) (-9) 9 ∧ (j < zp.1 ∨ zp.2.2.2.2.2.2.1 i j = 0) ∧ yp.2.2.2.2.2.2.1 (4 * i + j) = zp.2.2.2.2.2.2.1 i j) ∧ in_ok (zp.2.2.2.2.2.2.2 i) (-99) 99 ∧ yp.2.2.2.2.2.2.2 i = zp.2.2.2.2.2.2.2 i)
def jt_ok (zt : lj_T) (yt : lj_U) : Prop :=
  (∀ x, x < 40 → (zt.1 x = 0 ∨ zt.1 x = 1 ∨ zt.1 x = 2) ∧ yt.1 x = zt.1 x ∧ (in_ok (zt.2.1 x) 0 3 ∧ yt.2.1 x = zt.2.1 x) ∧ (in_ok (zt.2.2.1 x) (-20) 20 ∧ yt.2.2.1 x = zt.2.2.1 x) ∧ (nd_ok (zt.2.2.2.1 x) ∧ yt.2.2.2.1 x = zt.2.2.2.1 x) ∧ (nd_ok (zt.2.2.2.2.1 x) ∧ yt.2.2.2.2.1 x = zt.2.2.2.2.1 x) ∧ (zt.1 x = 1 → nI x < zt.2.2.2.1 x ∧ nI x < zt.2.2.2.2.1 x)) ∧
  (∀ y, y < 280 → in_ok (zt.2.2.2.2.2 y) 0 1000000 ∧ yt.2.2.2.2.2 y = (zt.2.2.2.2.2 y).toInt64)
def jw_d (lo hi : Nat → Int32) : Nat → Nat := fun j => (hi j - lo j).toNatClampNeg
/-- the class's last solution is what its search finds -/
def jc_ok (zp : lj_P) (zs : lj_S) : Prop := mn_part zs.2.2.2.2.2.2 zp.2.2.2.2.2.1 zp.2.2.2.2.2.2.1 zp.2.1 (2 ^ zp.1) 1 ∧ ∃ se best0 rests0 trial0 rests1 trial1 : Nat → Int32,
  (zs.2.2.1, zs.2.2.2.2.2.1, zs.2.2.2.1, zs.2.2.2.2.1, rests1, trial1) = st_f zp.2.2.1 zp.2.2.2.1 zp.2.2.2.2.1 zp.2.2.2.2.2.1 zp.2.2.2.2.2.2.1 zp.2.2.2.2.2.2.2 zs.2.2.2.2.2.2 zs.2.1 (jw_d zp.2.2.1 zp.2.2.2.1) zp.1 zp.2.1 (zp.1 + 1) 0 0 (ls_f zp.2.2.1 zp.2.2.2.1 zp.2.2.2.2.2.1 zp.1) (mx_f zp.2.2.1 se zp.1) (0, best0, 1, 0, rests0, trial0)
/-- the reference's last solution is what its search finds -/
def jm_ok (yp : lj_Q) (ys : lj_V) (lv : Int32) : Prop := ∃ (bst0 : Nat → Int64) (bb0 bc0 : Int64) (rsv : Nat → Int32) (rs : Nat) (re : Nat → Nat) (F : List (Nat → Int64)),
  rr_ok yp.2.2.2.2.1 lv rsv re rs yp.1 ∧ vd_all yp.2.2.2.2.1 lv yp.2.2.1 (jw_d yp.2.2.1 yp.2.2.2.1) yp.1 F ∧ ch_ok yp.2.2.1 yp.2.2.2.1 yp.2.2.2.2.2.2.1 yp.2.2.2.2.2.2.2 yp.2.2.2.2.2.1 yp.1 yp.2.1 re rs F (0, bst0, bb0, bc0) (ys.2.1, ys.2.2.2.2, ys.2.2.1, ys.2.2.2.1)
def js_ok (zp : lj_P) (zs : lj_S) (yp : lj_Q) (ys : lj_V) : Prop :=
  (zs.1 = 0 ∨ zs.1 = 1) ∧ ys.1 = (if zs.1 = 0 then 0 else sv_f zs.2.1) ∧ (¬ zs.1 = 0 → (zs.2.1 = 0 ∨ zs.2.1 = 1) ∧ (zs.2.2.1 = 0 ∨ zs.2.2.1 = 1) ∧ jc_ok zp zs ∧ jm_ok yp ys zs.2.1)
def lj_JJ (zp : lj_P) (zt : lj_T) (zs : lj_S) (yp : lj_Q) (yt : lj_U) (ys : lj_V) : Prop := jp_ok zp yp ∧ jt_ok zt yt ∧ js_ok zp zs yp ys
theorem js_0 {zp : lj_P} {yp : lj_Q} {x : Int32 × Int32 × Int32 × Int32 × (Nat → Int32) × (Nat → Int32)} {y : Int32 × Int64 × Int64 × (Nat → Int64)} : js_ok zp (0, x) yp (0, y) := ⟨Or.inl rfl, rfl, fun h => absurd rfl h⟩
section LJ2
variable {p : Program} {l : Launch} {e : Env} {R : Room} {s : State} {m : MethodId} {args : Array Value} {below : List Frame} {meth : Method} {c : Code} {H : Heap} {locs : List Loc} {cells slots : Nat} {Q : State → Prop}
variable {cc : ByteArray} {pc : Nat} {ls : Array Slot} {rest : List Value}
theorem lj_ld (hexec : p.tables.exec = Jvm.exec) (hb : c.code = cc) {b L : Nat} {xs : Nat → Int32} (hX : va_X b L xs s s.heap) (hbl : b < s.heap.size) (hS : va_S (mx_A s.heap.size) s.heap H locs) (j : Nat) (hj : j < L) (hL : L ≤ 4608) (hdg : decode cc pc = .ok (.iaload, 1))
    (kk : W p l e R s m args below meth c H locs cells slots Q (F0 m (pc + 1) ls (.int (xs j) :: rest))) : W p l e R s m args below meth c H locs cells slots Q (F0 m pc ls (.int (nI j) :: .ref b :: rest)) := by
  refine va_sld hexec hb hX hbl (Nat.not_le.mpr hbl) hS (mm_in rfl hj (by omega)) hdg ?_
  rw [mm_cl rfl hj (by omega)]; exact kk
end LJ2
theorem sp_start (x : Int32) : (∃ m1, (1 ≤ m1 ∧ m1 ≤ 4) ∧ x = nI m1) ∨ ¬ in_ok x 1 4 := by
  by_cases h : in_ok x 1 4
  · have h0 : (0 : Int32) ≤ x := by
      have := h.1
      rw [Int32.le_iff_toInt_le] at this ⊢
      have a : (1 : Int32).toInt = 1 := rfl
      have b : (0 : Int32).toInt = 0 := rfl
      omega
    obtain ⟨e, h1⟩ := in_nat (n := 4) (by decide) ⟨h0, h.2⟩
    refine Or.inl ⟨x.toNatClampNeg, ⟨?_, h1⟩, e⟩
    rcases Nat.eq_zero_or_pos x.toNatClampNeg with z | z
    · rw [z] at e
      rw [e] at h
      exact absurd h.1 (by decide)
    · exact z
  · exact Or.inr h
theorem sp_idx {n : Nat} (hn : n ≤ 100) (x : Int32) : (∃ j, j < n ∧ x = nI j) ∨ ¬ (0 ≤ x ∧ x < nI n) := by
  by_cases h : 0 ≤ x ∧ x < nI n
  · obtain ⟨j, hj, e⟩ := nI_of (i3_len h.1)
    refine Or.inl ⟨j, ?_, e⟩
    have h2 : nI j < nI n := by rw [← e]; exact h.2
    exact (nI_ltI hj (by omega)).mp h2
  · exact Or.inr h
theorem in_idx {n j : Nat} {x : Int32} (hn : n ≤ 4) (hj : j < n) (e : x = nI j) : in_ok x 0 (nI (n - 1)) ∧ x.toNatClampNeg = j := by
  subst e
  exact ⟨⟨nI_le (a := 0) (Nat.zero_le _) (by omega), nI_le (by omega) (by omega)⟩, nI_clamp (by omega)⟩
theorem no_idx {n : Nat} {x : Int32} (hn : 1 ≤ n ∧ n ≤ 4) (h : ¬ (0 ≤ x ∧ x < nI n)) : ¬ in_ok x 0 (nI (n - 1)) := by
  intro q
  obtain ⟨e, h1⟩ := in_nat (n := n - 1) (by omega) q
  refine h ⟨q.1, ?_⟩
  rw [e]
  exact nI_lt (by omega) (by omega)
theorem jj_start {zp : lj_P} {zt : lj_T} {zs : lj_S} {yp : lj_Q} {yt : lj_U} {ys : lj_V} (h : lj_JJ zp zt zs yp yt ys) {m1 : Nat} (hm : 1 ≤ m1 ∧ m1 ≤ 4) {lo1 hi1 wh1 co1 lo2 hi2 wh2 co2 : Nat → Int32} (h1 : ∀ j9, j9 < 4 → lo1 j9 = 0 ∧ hi1 j9 = 8 ∧ wh1 j9 = 1 ∧ co1 j9 = 0) (h2 : ∀ j9, j9 < 4 → lo2 j9 = 0 ∧ hi2 j9 = 8 ∧ wh2 j9 = 1 ∧ co2 j9 = 0) :
    lj_JJ (m1, 0, lo1, hi1, wh1, co1, zp.2.2.2.2.2.2.1, zp.2.2.2.2.2.2.2) zt (0, zs.2) (m1, 0, lo2, hi2, wh2, co2, yp.2.2.2.2.2.2.1, yp.2.2.2.2.2.2.2) yt (0, ys.2) := by
  refine ⟨⟨hm, Nat.zero_le _, rfl, rfl, fun j hj => ?_, fun i hi => absurd hi (Nat.not_lt_zero _)⟩, h.2.1, js_0⟩
  obtain ⟨a1, a2, a3, a4⟩ := h1 j hj
  obtain ⟨b1, b2, b3, b4⟩ := h2 j hj
  dsimp only
  rw [a1, a2, a3, a4, b1, b2, b3, b4]
  refine ⟨⟨⟨⟨by decide, by decide⟩, ⟨by decide, by decide⟩⟩, by decide, Or.inr rfl, Or.inr (by decide), ⟨by decide, by decide⟩⟩, rfl, rfl, rfl, rfl⟩
section CO1
variable {n j : Nat} {jv cv so : Int32} {co : Nat → Int32} {cs1 : cs_T}
theorem cs_good (hn : n ≤ 4) (hj : j < n) (he : jv = nI j) (hok : in_ok cv (-9) 9) (q : cs1 = cs_f n jv cv co so) : cs1 = (0, upd co j cv, 0) := by
  obtain ⟨a, b⟩ := in_idx hn hj he
  rw [q]; unfold cs_f
  rw [ci_t a, ci_t hok, b]
theorem cs_bad1 (hn : 1 ≤ n ∧ n ≤ 4) (h : ¬ (0 ≤ jv ∧ jv < nI n)) (q : cs1 = cs_f n jv cv co so) : cs1 = (1, co, so) := by rw [q]; exact ci_n (no_idx hn h)
theorem cs_bad2 (hn : n ≤ 4) (hj : j < n) (he : jv = nI j) (hok : ¬ in_ok cv (-9) 9) (q : cs1 = cs_f n jv cv co so) : cs1 = (2, co, so) := by
  rw [q]; exact (ci_t (in_idx hn hj he).1).trans (ci_n hok)
end CO1
section JJ1
variable {zp : lj_P} {zt : lj_T} {zs : lj_S} {yp : lj_Q} {yt : lj_U} {ys : lj_V}
theorem jj_cost (h : lj_JJ zp zt zs yp yt ys) {j : Nat} {cv : Int32} (hj : j < zp.1) (hok : in_ok cv (-9) 9) {cs1 : cs_T} (hz : cs1 = (0, upd yp.2.2.2.2.2.1 j cv, 0)) :
    lj_JJ (zp.1, zp.2.1, zp.2.2.1, zp.2.2.2.1, zp.2.2.2.2.1, upd zp.2.2.2.2.2.1 j cv, zp.2.2.2.2.2.2.1, zp.2.2.2.2.2.2.2) zt (0, zs.2) (yp.1, yp.2.1, yp.2.2.1, yp.2.2.2.1, yp.2.2.2.2.1, cs1.2.1, yp.2.2.2.2.2.2.1, yp.2.2.2.2.2.2.2) yt (cs1.2.2, ys.2) := by
  subst hz
  obtain ⟨⟨h1, h2, h3, h4, h5, h6⟩, ht, -⟩ := h
  refine ⟨⟨h1, h2, h3, h4, fun i hi => ?_, h6⟩, ht, js_0⟩
  obtain ⟨⟨a1, a2, a3, a4, a5⟩, b1, b2, b3, b4⟩ := h5 i hi
  dsimp only
  by_cases e : i = j
  · subst e
    rw [pk_us, pk_us]
    exact ⟨⟨a1, a2, a3, a4, hok⟩, b1, b2, b3, rfl⟩
  · rw [pk_un e, pk_un e]
    exact ⟨⟨a1, a2, a3, a4, a5⟩, b1, b2, b3, b4⟩
theorem jj_cost0 (h : lj_JJ zp zt zs yp yt ys) {t : Int32} {cs1 : cs_T} (hz : cs1 = (t, yp.2.2.2.2.2.1, ys.1)) :
    lj_JJ zp zt zs (yp.1, yp.2.1, yp.2.2.1, yp.2.2.2.1, yp.2.2.2.2.1, cs1.2.1, yp.2.2.2.2.2.2.1, yp.2.2.2.2.2.2.2) yt (cs1.2.2, ys.2) := by
  subst hz; exact h
end JJ1
