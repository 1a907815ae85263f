/-! both searches find the same -/
section HA
variable {w w2 : Nat → Prop} {lo hi wh co bd lo2 hi2 bd2 : Nat → Int32} {M M2 : Nat → Nat → Int32} {n k : Nat} {d : Int} {x : Nat → Int}
theorem ls_int (hq : pq_ok lo hi co M bd n k) : ∀ m, m ≤ n → (ls_f lo hi co m).toInt = sm_f (lk_f lo hi co) m ∧ (ls_f lo hi co m).toInt.natAbs ≤ m * 180
  | 0, _ => ⟨rfl, by rw [show (ls_f lo hi co 0).toInt = 0 from rfl]; decide⟩
  | m + 1, h => by
    obtain ⟨e, b⟩ := ls_int hq m (by omega)
    obtain ⟨e2, b2⟩ := lc_int hq (show m < n by omega)
    have hn := hq.1.2
    have e3 : (ls_f lo hi co (m + 1)).toInt = (ls_f lo hi co m).toInt + (lc_f lo hi co m).toInt := by
      show (ls_f lo hi co m + lc_f lo hi co m).toInt = _
      rw [Int32.toInt_add]
      exact Int.bmod_eq_of_le (by omega) (by omega)
    refine ⟨?_, by omega⟩
    rw [e3, e, e2]; rfl
theorem cls_fin {vals : Nat → Int32} {lz : Int32} {wd : Nat → Nat} (hq : pq_ok lo hi co M bd n k) (hm : mn_part vals co M k (2 ^ n) 1) (hw : ∀ i, i < n → (hi i).toInt = (lo i).toInt + wd i) {se best rests trial : Nat → Int32} {s : sg_T} (hs : s = st_f lo hi wh co M bd vals lz wd n k (n + 1) 0 0 (ls_f lo hi co n) (mx_f lo se n) (0, best, 1, 0, rests, trial)) :
    sI_ok (wk_ok wh lz) lo hi M bd co n k s ∧ ∀ d x, 0 < d → ki_ok lo hi M bd n k d x → kn_ok (wk_ok wh lz) lo hi M bd n k d x → sQ_ok co n s d x := by
  have hN : ni_ok (wk_ok wh lz) lo hi co n 0 0 (ls_f lo hi co n) (mx_f lo se n) := by
    refine ⟨Nat.zero_le _, by decide, fun i h => absurd h (Nat.not_lt_zero _), fun i h => absurd h (Nat.not_lt_zero _), fun i h _ => ?_, ?_⟩
    · unfold mx_f; rw [if_pos h]
    · rw [(ls_int hq n (Nat.le_refl _)).1]
      refine sm_cg n (fun i _ => ?_)
      unfold nl_f
      rw [if_neg (fun q => absurd q.1 (Nat.not_lt_zero _))]
  have st := st_step hq hm hw (n + 1) 0 0 (ls_f lo hi co n) (mx_f lo se n) (0, best, 1, 0, rests, trial) (by omega) hN (fun z => absurd rfl z)
  rw [← hs] at st
  refine ⟨st.1, fun d x hd hki hkn => ?_⟩
  obtain ⟨R, C, h2⟩ := ez_3 hq hd hki hkn
  exact st.2.2 d x R C hd hki h2 ⟨fun i h => absurd h (Nat.not_lt_zero _), fun i h => absurd h (Nat.not_lt_zero _)⟩
theorem ki_x (h1 : ∀ j, j < n → lo2 j = lo j ∧ hi2 j = hi j) (h2 : ∀ i, i < k → (∀ j, j < n → M2 i j = M i j) ∧ bd2 i = bd i) (h : ki_ok lo hi M bd n k d x) : ki_ok lo2 hi2 M2 bd2 n k d x := by
  refine ⟨fun j hj => by rw [(h1 j hj).1, (h1 j hj).2]; exact h.1 j hj, fun i hi' => ?_⟩
  rw [(h2 i hi').2, sm_cg n (g := fun j => (M i j).toInt * x j) (fun j hj => by rw [(h2 i hi').1 j hj])]
  exact h.2 i hi'
theorem kn_x (h1 : ∀ j, j < n → lo2 j = lo j ∧ hi2 j = hi j) (h2 : ∀ i, i < k → (∀ j, j < n → M2 i j = M i j) ∧ bd2 i = bd i) (hw : ∀ j, j < n → (w2 j ↔ w j)) (h : kn_ok w lo hi M bd n k d x) : kn_ok w2 lo2 hi2 M2 bd2 n k d x := by
  obtain ⟨R, C, hl, hR, hC, a1, a2, a3, a4⟩ := h
  refine ⟨R, C, hl, hR, hC, fun t ht => fun q => a1 t ht ((hw _ (hR.2 t ht)).mp q), fun q => a2 ?_, fun t ht => ?_, fun j hj => ?_⟩
  · rw [← q]
    refine dl_nn hl.1 hl.2 (fun a b ha hb => ?_)
    unfold nn_f
    rw [(h2 _ (hC.2 b hb)).1 _ (hR.2 a ha)]
  · rw [(h2 _ (hC.2 t ht)).2, sm_cg n (g := fun j => (M (C.getD t 0) j).toInt * x j) (fun j hj => by rw [(h2 _ (hC.2 t ht)).1 j hj])]
    exact a3 t ht
  · rcases a4 j hj with q | ⟨v, q1, q2, q3⟩
    · exact Or.inl q
    · exact Or.inr ⟨v, by rw [(h1 j hj).1, (h1 j hj).2]; exact q1, q2, fun z => by rw [(h1 j hj).1, (h1 j hj).2]; exact q3 (fun y => z ((hw j hj).mpr y))⟩
end HA
theorem in_9 {c : Int32} (h : in_ok c (-9) 9) : c.toInt.natAbs ≤ 9 := by
  have a := Int32.le_iff_toInt_le.mp h.1
  have b := Int32.le_iff_toInt_le.mp h.2
  rw [show (-9 : Int32).toInt = -9 by decide] at a
  rw [show (9 : Int32).toInt = 9 by decide] at b
  omega
theorem in_99 {c : Int32} (h : in_ok c (-99) 99) : c.toInt.natAbs ≤ 99 := by
  have a := Int32.le_iff_toInt_le.mp h.1
  have b := Int32.le_iff_toInt_le.mp h.2
  rw [show (-99 : Int32).toInt = -99 by decide] at a
  rw [show (99 : Int32).toInt = 99 by decide] at b
  omega
theorem pq_z {zp : lj_P} {yp : lj_Q} (h : jp_ok zp yp) : pq_ok zp.2.2.1 zp.2.2.2.1 zp.2.2.2.2.2.1 zp.2.2.2.2.2.2.1 zp.2.2.2.2.2.2.2 zp.1 zp.2.1 := by
  obtain ⟨h1, h2, h3, h4, h5, h6⟩ := h
  refine ⟨h1, h2, fun j hj => ?_, fun i hi => ⟨fun j hj => in_9 ((h6 i hi).1 j (by omega)).1, in_99 (h6 i hi).2.1⟩⟩
  have a := (h5 j (by omega)).1
  exact ⟨(ja_i a).1, in_9 a.2.2.2.2⟩
theorem pq_y {zp : lj_P} {yp : lj_Q} (h : jp_ok zp yp) : pq_ok yp.2.2.1 yp.2.2.2.1 yp.2.2.2.2.2.1 (fun i j => yp.2.2.2.2.2.2.1 (4 * i + j)) yp.2.2.2.2.2.2.2 yp.1 yp.2.1 := by
  have hz := pq_z h
  obtain ⟨h1, h2, h3, h4, h5, h6⟩ := h
  rw [h3, h4]
  refine ⟨h1, h2, fun j hj => ?_, fun i hi => ⟨fun j hj => ?_, ?_⟩⟩
  · obtain ⟨-, b1, b2, b3, b4⟩ := h5 j (by omega)
    rw [b1, b2, b4]; exact hz.2.2.1 j hj
  · show (yp.2.2.2.2.2.2.1 (4 * i + j)).toInt.natAbs ≤ 9
    rw [((h6 i hi).1 j (by omega)).2.2]; exact (hz.2.2.2 i hi).1 j hj
  · rw [(h6 i hi).2.2]; exact (hz.2.2.2 i hi).2
theorem jp_w {zp : lj_P} {yp : lj_Q} (h : jp_ok zp yp) : ∀ i, i < zp.1 → (zp.2.2.2.1 i).toInt = (zp.2.2.1 i).toInt + jw_d zp.2.2.1 zp.2.2.2.1 i := fun i hi => (jw_at (h.2.2.2.2.1 i (by have := h.1; omega)).1).2.2
theorem lj_ha : lj_Ha := by
  intro zp zs yp ys hj hlv hc hm
  have hqz := pq_z hj
  have hqy := pq_y hj
  obtain ⟨hm1, se, best0, rests0, trial0, rests1, trial1, hst⟩ := hc
  obtain ⟨cI, cQ⟩ := cls_fin hqz hm1 (jp_w hj) hst
  obtain ⟨bst0, bb0, bc0, rsv, rs, re, F, hrr, hvd, hch⟩ := hm
  have hwy : ∀ j, j < yp.1 → (yp.2.2.2.1 j).toInt = (yp.2.2.1 j).toInt + jw_d yp.2.2.1 yp.2.2.2.1 j := fun j hj' => (jw_b hj j hj').1
  obtain ⟨rI, rQ⟩ := ref_fin hqy hrr hwy hvd hch
  have hfz : zs.2.2.1 = 0 ∨ zs.2.2.1 = 1 := by
    have := st_bb (lo := zp.2.2.1) (hi := zp.2.2.2.1) (wh := zp.2.2.2.2.1) (co := zp.2.2.2.2.2.1) (M := zp.2.2.2.2.2.2.1) (bd := zp.2.2.2.2.2.2.2) (vals := zs.2.2.2.2.2.2) (lz := zs.2.1) (wd := jw_d zp.2.2.1 zp.2.2.2.1) (n := zp.1) (k := zp.2.1) (zp.1 + 1) 0 0 (ls_f zp.2.2.1 zp.2.2.2.1 zp.2.2.2.2.2.1 zp.1) (mx_f zp.2.2.1 se zp.1) (0, best0, 1, 0, rests0, trial0) (Or.inl rfl)
    rw [← hst] at this
    exact this
  have hch_b : ∀ (G : List (Nat → Int64)) (s t : mt_T), fb_ok s → ch_ok yp.2.2.1 yp.2.2.2.1 yp.2.2.2.2.2.2.1 yp.2.2.2.2.2.2.2 yp.2.2.2.2.2.1 yp.1 yp.2.1 re rs G s t → fb_ok t := by
    intro G
    induction G with
    | nil => intro s t hs h; have e : s = t := by first | exact h | exact h.symm
             rw [← e]; exact hs
    | cons f G ih => intro s t hs h
                     obtain ⟨u, a, b⟩ := h
                     exact ih u t (sr_b a hs) b
  have hfy : ys.2.1 = 0 ∨ ys.2.1 = 1 := hch_b F _ _ (Or.inl rfl) hch
  obtain ⟨h1, h2, h3, h4, h5, h6⟩ := hj
  have e1 : ∀ j, j < zp.1 → yp.2.2.1 j = zp.2.2.1 j ∧ yp.2.2.2.1 j = zp.2.2.2.1 j := fun j hj => ⟨(h5 j (by omega)).2.1, (h5 j (by omega)).2.2.1⟩
  have e2 : ∀ i, i < zp.2.1 → (∀ j, j < zp.1 → yp.2.2.2.2.2.2.1 (4 * i + j) = zp.2.2.2.2.2.2.1 i j) ∧ yp.2.2.2.2.2.2.2 i = zp.2.2.2.2.2.2.2 i := fun i hi => ⟨fun j hj => ((h6 i hi).1 j (by omega)).2.2, (h6 i hi).2.2⟩
  have e3 : ∀ j, j < zp.1 → (wk_ok yp.2.2.2.2.1 zs.2.1 j ↔ wk_ok zp.2.2.2.2.1 zs.2.1 j) := fun j hj => by unfold wk_ok; rw [(h5 j (by omega)).2.2.2.1]
  have e4 : ∀ j, j < zp.1 → yp.2.2.2.2.2.1 j = zp.2.2.2.2.2.1 j := fun j hj => (h5 j (by omega)).2.2.2.2
  rw [h3, h4] at rI rQ
  -- what one has found the other has not passed over
  have t1 : ¬ zs.2.2.1 = 0 → rQ_ok yp.2.2.2.2.2.1 zp.1 (ys.2.1, ys.2.2.2.2, ys.2.2.1, ys.2.2.2.1) zs.2.2.2.1.toInt (jI zs.2.2.2.2.2.1) := fun z => by
    obtain ⟨a1, a2, a3, a4⟩ := cI z
    exact rQ _ _ a1.1 (ki_x e1 e2 a3) (kn_x e1 e2 e3 a4)
  have t2 : ¬ ys.2.1 = 0 → sQ_ok zp.2.2.2.2.2.1 zp.1 (zs.2.2.1, zs.2.2.2.2.2.1, zs.2.2.2.1, zs.2.2.2.2.1, rests1, trial1) ys.2.2.1.toInt (bI ys.2.2.2.2) := fun z => by
    obtain ⟨a1, a2, a3, a4⟩ := rI z
    exact cQ _ _ a1.1 (ki_x (fun j hj => ⟨(e1 j hj).1.symm, (e1 j hj).2.symm⟩) (fun i hi => ⟨fun j hj => ((e2 i hi).1 j hj).symm, (e2 i hi).2.symm⟩) a3) (kn_x (fun j hj => ⟨(e1 j hj).1.symm, (e1 j hj).2.symm⟩) (fun i hi => ⟨fun j hj => ((e2 i hi).1 j hj).symm, (e2 i hi).2.symm⟩) (fun j hj => (e3 j hj).symm) a4)
  refine ⟨?_, fun z => ?_⟩
  · rcases hfz with z | z <;> rcases hfy with y | y
    · rw [z, y]
    · exact absurd z (t2 (by rw [y]; decide)).1
    · exact absurd y (t1 (by rw [z]; decide)).1
    · rw [z, y]
  · have y := (t1 z).1
    have q1 := (t1 z).2
    have q2 := (t2 y).2
    obtain ⟨a1, a2, a3, a4⟩ := cI z
    obtain ⟨b1, b2, b3, b4⟩ := rI y
    dsimp only at q1 q2 a1 a2 a3 b1 b2 b3
    have hv : ∀ (X : Nat → Int) i, i ≤ zp.1 → vq_f (cI_f yp.2.2.2.2.2.1) zp.1 X i = vq_f (cI_f zp.2.2.2.2.2.1) zp.1 X i := fun X i hi => by
      unfold vq_f cI_f
      by_cases y : i = 0
      · rw [if_pos y, if_pos y]; exact sm_cg _ (fun j hj => by rw [e4 j hj])
      · rw [if_neg y, if_neg y]
    have hall : ∀ i, i ≤ zp.1 → vq_f (cI_f zp.2.2.2.2.2.1) zp.1 (jI zs.2.2.2.2.2.1) i * ys.2.2.1.toInt = vq_f (cI_f zp.2.2.2.2.2.1) zp.1 (bI ys.2.2.2.2) i * zs.2.2.2.1.toInt := by
      rcases xl_3 (n := zp.1) (va := vq_f (cI_f zp.2.2.2.2.2.1) zp.1 (jI zs.2.2.2.2.2.1)) (da := zs.2.2.2.1.toInt) (vb := vq_f (cI_f zp.2.2.2.2.2.1) zp.1 (bI ys.2.2.2.2)) (db := ys.2.2.1.toInt) with c | c | c
      · exact absurd (xl_cg2 (fun i hi => (hv _ i hi).symm) (fun i hi => (hv _ i hi).symm) c) q1
      · exact absurd c q2
      · exact c
    have hjx : ∀ j, j < zp.1 → (zs.2.2.2.2.2.1 j).toInt * ys.2.2.1.toInt = (ys.2.2.2.2 j).toInt * zs.2.2.2.1.toInt := fun j hj => hall (j + 1) (by omega)
    have hcx : zs.2.2.2.2.1.toInt * ys.2.2.1.toInt = ys.2.2.2.1.toInt * zs.2.2.2.1.toInt := by
      have := hall 0 (Nat.zero_le _)
      have u1 : vq_f (cI_f zp.2.2.2.2.2.1) zp.1 (jI zs.2.2.2.2.2.1) 0 = zs.2.2.2.2.1.toInt := a2.symm
      have u2 : vq_f (cI_f zp.2.2.2.2.2.1) zp.1 (bI ys.2.2.2.2) 0 = ys.2.2.2.1.toInt := by rw [← hv _ 0 (Nat.zero_le _)]; exact b2.symm
      rw [u1, u2] at this
      exact this
    have hbz : ∀ j, j < zp.1 → (zs.2.2.2.2.2.1 j).toInt.natAbs ≤ 3240180 := fun j hj => ki_b2 hqz a1 a3 hj
    rw [h3, h4] at hqy
    have hby : ∀ j, j < zp.1 → (ys.2.2.2.2 j).toInt.natAbs ≤ 3240180 := fun j hj => ki_b2 hqy b1 b3 hj
    have cz : zs.2.2.2.2.1.toInt.natAbs ≤ 1000000000 := by
      rw [a2]
      refine nb_le (sm_b (c := fun j => (zp.2.2.2.2.2.1 j).toInt) (x := fun j => (zs.2.2.2.2.2.1 j).toInt) zp.1 (fun j hj => ⟨(hqz.2.2.1 j hj).2, hbz j hj⟩)) ?_
      have := Nat.mul_le_mul_right (9 * 3240180) h1.2
      omega
    have cy : ys.2.2.2.1.toInt.natAbs ≤ 1000000000 := by
      rw [b2]
      refine nb_le (sm_b (c := fun j => (yp.2.2.2.2.2.1 j).toInt) (x := fun j => (ys.2.2.2.2 j).toInt) zp.1 (fun j hj => ⟨(hqy.2.2.1 j hj).2, hby j hj⟩)) ?_
      have := Nat.mul_le_mul_right (9 * 3240180) h1.2
      omega
    refine ⟨fun q => ?_, fun wv r hwv => ⟨fun hr => ?_, fun j hj hr => ?_⟩⟩
    · rw [q] at b1; exact absurd b1.1 (by decide)
    · exact pt_eq a1.1 cz (by omega) b1.1 (by omega) (by omega) hcx hr
    · exact pt_eq a1.1 (nb_le (hbz j hj) (by decide)) (by omega) b1.1 (nb_le (hby j hj) (by decide)) (by omega) (hjx j hj) hr
