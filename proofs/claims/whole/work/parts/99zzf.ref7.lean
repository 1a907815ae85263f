/-! the reference's solution, whole -/
section RF
variable {w : Nat → Prop} {lo hi wt bd co : Nat → Int32} {n k : Nat} {fx : Nat → Int64} {re : Nat → Nat} {rs : Nat}
theorem sr_step (hq : pq_ok lo hi co (fun i j => wt (4 * i + j)) bd n k) (hre : re_ok w re rs n) (hrs : rs ≤ 4) (hfx : fz_ok w lo hi n fx) {s u : mt_T} (hI : rI_ok w lo hi wt bd co n k s) (hsr : sr_ok lo hi wt bd co n k re rs fx s u) :
    rI_ok w lo hi wt bd co n k u ∧ (∀ d x, 0 < d → rQ_ok co n s d x → rQ_ok co n u d x) ∧ ∀ d x, 0 < d → ki_ok lo hi (fun i j => wt (4 * i + j)) bd n k d x → kn_ok w lo hi (fun i j => wt (4 * i + j)) bd n k d x → (∀ j, j < n → w j → x j = (fx j).toInt * d) → rQ_ok co n u d x := by
  rcases Nat.eq_zero_or_pos rs with h0 | h0
  · have hall : ∀ j, j < n → w j := fun j hj => Classical.byContradiction fun z => by
      obtain ⟨c, hc, -⟩ := hre.2.2 j hj z
      omega
    have e := hsr.1 h0
    have hk : kn_ok w lo hi (fun i j => wt (4 * i + j)) bd n k (1 : Int64).toInt (bI fx) := by
      refine ⟨[], [], ⟨rfl, by simp⟩, ⟨fun t ht => by simp at ht, fun t ht => by simp at ht⟩, ⟨fun t ht => by simp at ht, fun t ht => by simp at ht⟩, fun t ht => by simp at ht, by simp [dl_f], fun t ht => by simp at ht, fun j hj => Or.inr ⟨(fx j).toInt, (hfx j hj).1 (hall j hj), ?_, fun z => absurd (hall j hj) z⟩⟩
      show (fx j).toInt = (fx j).toInt * 1
      rw [Int.mul_one]
    have st := mt_step hq (tr := fx) (be := 1) hI ⟨by decide, by decide⟩ (fun j hj => nb_le (fzb_20 hq hfx hj) (by decide)) hk
    rw [← e] at st
    refine ⟨st.1, st.2.1, fun d x hd hki hkn hxw => ?_⟩
    have hx : ∀ j, j < n → bI fx j * d = x j * (1 : Int64).toInt := fun j hj => by
      rw [hxw j hj (hall j hj)]
      show (fx j).toInt * d = (fx j).toInt * d * 1
      rw [Int.mul_one]
    exact rQ_tr hd (by decide) (fun z => (st.1 z).1.1) hx (st.2.2 (ki_tr hd (by decide) hx hki))
  · obtain ⟨L, hL, e⟩ := hsr.2 h0
    have st := cl_step hq hre hfx ⟨h0, hrs⟩ L s hL.1 hI
    rw [← e] at st
    refine ⟨st.1, st.2.1, fun d x hd hki hkn hxw => ?_⟩
    obtain ⟨p, hp, hD, hY⟩ := comp_r hq hre hfx ⟨h0, hrs⟩ hkn hxw
    obtain ⟨p2, hp2, hag⟩ := hL.2 p hp
    have hA : ∀ r c, r < rs → ra_f lo hi wt bd fx re rs n p2 r c = ra_f lo hi wt bd fx re rs n p r c := fun r c hr => by unfold ra_f; rw [hag r hr]
    have hD2 : xd_f rs (ra_f lo hi wt bd fx re rs n p2) = xd_f rs (ra_f lo hi wt bd fx re rs n p) := xd_cg ⟨h0, hrs⟩ (fun r c hr _ => hA r c hr)
    have hY2 : ∀ c, xd_f rs (rc_f (ra_f lo hi wt bd fx re rs n p2) (rb_f lo hi wt bd fx re rs n p2) c) = xd_f rs (rc_f (ra_f lo hi wt bd fx re rs n p) (rb_f lo hi wt bd fx re rs n p) c) := fun c => xd_cg ⟨h0, hrs⟩ (fun r c' hr _ => by
      unfold rc_f rb_f
      by_cases z : c' = c
      · rw [if_pos z, if_pos z]; exact hA r 4 hr
      · rw [if_neg z, if_neg z]; exact hA r c' hr)
    have hic := hL.1 p2 hp2
    have hd0 : ¬ dd_f (mk_R lo hi wt bd fx re rs n) p2 (-1) rs = 0 := fun z => by
      have := (dd_1 (fx := fx) hq hre hic ⟨h0, hrs⟩).1
      rw [z] at this
      exact hD (by rw [← hD2, ← this]; rfl)
    obtain ⟨sg, -, c1, c2, c3, c4, c5, c6⟩ := cand_r hq hre hfx hic ⟨h0, hrs⟩ hd0 rfl rfl
    have hx : ∀ j, j < n → cp_x lo hi wt bd fx re rs n p2 j * d = x j * cp_d lo hi wt bd fx re rs n p2 := fun j hj => by
      by_cases z : w j
      · have e5 : cp_x lo hi wt bd fx re rs n p2 j = (fx j).toInt * cp_d lo hi wt bd fx re rs n p2 := c5 j hj z
        rw [e5, hxw j hj z, Int.mul_assoc, Int.mul_assoc, Int.mul_comm d]
      · obtain ⟨c, hc, ec⟩ := hre.2.2 j hj z
        have e4 : cp_x lo hi wt bd fx re rs n p2 (re c) = sg * xd_f rs (rc_f (ra_f lo hi wt bd fx re rs n p2) (rb_f lo hi wt bd fx re rs n p2) c) := c4 c hc
        have e1 : cp_d lo hi wt bd fx re rs n p2 = sg * xd_f rs (ra_f lo hi wt bd fx re rs n p2) := c1
        rw [← ec, e4, e1, hY2, hD2, Int.mul_assoc, Int.mul_comm _ d, hY c hc, ← Int.mul_assoc, Int.mul_comm (x (re c))]
    have hp0 : 0 < cp_d lo hi wt bd fx re rs n p2 := c2.1
    exact rQ_tr hd hp0 (fun z => (st.1 z).1.1) hx (st.2.2 p2 hp2 hd0 (ki_tr hd hp0 hx hki))
theorem ch_step (hq : pq_ok lo hi co (fun i j => wt (4 * i + j)) bd n k) (hre : re_ok w re rs n) (hrs : rs ≤ 4) : ∀ (F : List (Nat → Int64)) (s t : mt_T), (∀ f ∈ F, fz_ok w lo hi n f) → rI_ok w lo hi wt bd co n k s → ch_ok lo hi wt bd co n k re rs F s t →
    rI_ok w lo hi wt bd co n k t ∧ (∀ d x, 0 < d → rQ_ok co n s d x → rQ_ok co n t d x) ∧ ∀ f ∈ F, ∀ d x, 0 < d → ki_ok lo hi (fun i j => wt (4 * i + j)) bd n k d x → kn_ok w lo hi (fun i j => wt (4 * i + j)) bd n k d x → (∀ j, j < n → w j → x j = (f j).toInt * d) → rQ_ok co n t d x
  | [], s, t, _, hI, h => by
    have e : s = t := by first | exact h | exact h.symm
    subst e
    exact ⟨hI, fun _ _ _ h => h, fun f hf => absurd hf List.not_mem_nil⟩
  | f :: F, s, t, hF, hI, h => by
    obtain ⟨u, h1, h2⟩ := h
    have a := sr_step hq hre hrs (hF f List.mem_cons_self) hI h1
    have b := ch_step hq hre hrs F u t (fun g hg => hF g (List.mem_cons_of_mem _ hg)) a.1 h2
    refine ⟨b.1, fun d x hd hQ => b.2.1 d x hd (a.2.1 d x hd hQ), fun g hg d x hd h3 h4 h5 => ?_⟩
    rcases List.mem_cons.mp hg with z | z
    · rw [z] at h5
      exact b.2.1 d x hd (a.2.2 d x hd h3 h4 h5)
    · exact b.2.2 g z d x hd h3 h4 h5
theorem ref_fin {wh rsv : Nat → Int32} {lv : Int32} {wd : Nat → Nat} {F : List (Nat → Int64)} {bst0 : Nat → Int64} {bb0 bc0 : Int64} {ms : mt_T} (hq : pq_ok lo hi co (fun i j => wt (4 * i + j)) bd n k) (hrr : rr_ok wh lv rsv re rs n) (hwd : ∀ j, j < n → (hi j).toInt = (lo j).toInt + wd j) (hF : vd_all wh lv lo wd n F) (hch : ch_ok lo hi wt bd co n k re rs F (0, bst0, bb0, bc0) ms) :
    rI_ok (wk_ok wh lv) lo hi wt bd co n k ms ∧ ∀ d x, 0 < d → ki_ok lo hi (fun i j => wt (4 * i + j)) bd n k d x → kn_ok (wk_ok wh lv) lo hi (fun i j => wt (4 * i + j)) bd n k d x → rQ_ok co n ms d x := by
  have hre : re_ok (wk_ok wh lv) re rs n := ⟨fun c hc => (hrr.2.1 c hc).2, hrr.2.2.1, hrr.2.2.2⟩
  have hrs : rs ≤ 4 := by have := hrr.1; have := hq.1.2; omega
  have hfz : ∀ f ∈ F, fz_ok (wk_ok wh lv) lo hi n f := fun f hf j hj => by
    obtain ⟨e, e1, e2⟩ := hF.1 f hf
    refine ⟨fun z => ?_, fun z => by rw [(e2 j hj).2 z]; rfl⟩
    have a := (e2 j hj).1 z
    have b := (e1 j hj).1 z
    have c := hwd j hj
    omega
  have st := ch_step hq hre hrs F _ ms hfz (fun z => absurd rfl z) hch
  refine ⟨st.1, fun d x hd hki hkn => ?_⟩
  -- the setting of the whole amounts
  have hv : ∀ j, j < n → wk_ok wh lv j → ∃ v : Nat, v ≤ wd j ∧ x j = ((lo j).toInt + v) * d := fun j hj z => by
    obtain ⟨R, C, -, hR, -, hRw, -, -, hall⟩ := hkn
    rcases hall j hj with ⟨t, ht, e⟩ | ⟨v, ⟨v1, v2⟩, e, -⟩
    · exact absurd z (by rw [← e]; exact hRw t ht)
    · refine ⟨(v - (lo j).toInt).toNat, ?_, ?_⟩
      · have := hwd j hj; omega
      · rw [e, show (lo j).toInt + ((v - (lo j).toInt).toNat : Int) = v by omega]
  obtain ⟨ev, hev⟩ : ∃ ev : Nat → Nat, ∀ j, (j < n ∧ wk_ok wh lv j → ev j ≤ wd j ∧ x j = ((lo j).toInt + ev j) * d) ∧ (¬ (j < n ∧ wk_ok wh lv j) → ev j = 0) := by
    refine Classical.axiomOfChoice (r := fun j v => (j < n ∧ wk_ok wh lv j → v ≤ wd j ∧ x j = ((lo j).toInt + v) * d) ∧ (¬ (j < n ∧ wk_ok wh lv j) → v = 0)) (fun j => ?_)
    by_cases z : j < n ∧ wk_ok wh lv j
    · obtain ⟨v, a, b⟩ := hv j z.1 z.2
      exact ⟨v, fun _ => ⟨a, b⟩, fun q => absurd z q⟩
    · exact ⟨0, fun q => absurd q z, fun _ => rfl⟩
  obtain ⟨f, hf, hfe⟩ := hF.2 ev (fun j hj => ⟨fun z => ((hev j).1 ⟨hj, z⟩).1, fun z => (hev j).2 (fun q => z q.2)⟩)
  exact st.2.2 f hf d x hd hki hkn (fun j hj z => by rw [(hfe j hj).1 z]; exact ((hev j).1 ⟨hj, z⟩).2)
end RF
