/-! the planner's search, whole -/
theorem wl_iff {wh : Nat → Int32} {lz : Int32} {j : Nat} : wl_f wh lz j = 0 ↔ ¬ wk_ok wh lz j := by
  unfold wl_f wk_ok
  by_cases h : ¬ wh j = 0 ∧ lz = 0
  · rw [if_pos h]; exact ⟨fun q => absurd q (by decide), fun q => absurd ⟨h.2, h.1⟩ q⟩
  · rw [if_neg h]; exact ⟨fun _ q => h ⟨q.2, q.1⟩, fun _ => rfl⟩
section DH
variable {lo hi wh co bd : Nat → Int32} {M : Nat → Nat → Int32} {n k : Nat} {vals : Nat → Int32} {lz : Int32} {wd : Nat → Nat}
theorem leaf_c (hq : pq_ok lo hi co M bd n k) {fr : Nat} {se : Nat → Int32} {d : Int} {x : Nat → Int} {R C : List Nat} (hf : fr < 2 ^ n) (hK : k2_ok (wk_ok wh lz) lo hi M bd n k d x R C) (hB : bn_ok n fr se d x R) : R = bl_f fr ∧ ∃ ti, ti < 2 ^ k ∧ pc_n fr = pc_n ti ∧ bl_f ti = C := by
  obtain ⟨⟨l1, l4⟩, hR, hC, -, -, -, -⟩ := hK
  have h16 := bt_2lt n hq.1.2
  have hre := re_bl hq hf
  have eR : R = bl_f fr := by
    refine pw_eq R _ (ic_pw hR) (ic_pw (bl_ic (show fr < 128 by omega))) (fun i => ?_)
    constructor
    · intro h
      obtain ⟨t, ht, e⟩ := gd_mem.mp h
      have hi : i < n := by rw [← e]; exact hR.2 t ht
      exact (fr_in (by have := hq.1.2; omega)).mp ((hB.1 i hi).mp h)
    · intro h
      obtain ⟨t, ht, e⟩ := gd_mem.mp h
      have hi : i < n := by rw [← e]; exact (hre.1 t ht).1
      exact (hB.1 i hi).mpr ((fr_in (by have := hq.1.2; omega)).mpr h)
  refine ⟨eR, ?_⟩
  have hk := hq.2.1
  obtain ⟨ti, t1, t2⟩ := li_num (l := C) ⟨hC.1, fun t ht => by have := hC.2 t ht; omega⟩ (by omega)
  refine ⟨ti, bq_1k k hk ti t1 (by rw [t2]; exact hC.2), ?_, t2⟩
  rw [← bl_len fr (by omega), ← bl_len ti t1, ← eR, t2]; exact l1
theorem st_step (hq : pq_ok lo hi co M bd n k) (hm : mn_part vals co M k (2 ^ n) 1) (hw : ∀ i, i < n → (hi i).toInt = (lo i).toInt + wd i) : ∀ (f j fr : Nat) (lc : Int32) (se : Nat → Int32) (s : sg_T), j + f = n + 1 → ni_ok (wk_ok wh lz) lo hi co n j fr lc se → sI_ok (wk_ok wh lz) lo hi M bd co n k s →
    sI_ok (wk_ok wh lz) lo hi M bd co n k (st_f lo hi wh co M bd vals lz wd n k f j fr lc se s) ∧ (∀ e x, 0 < e → sQ_ok co n s e x → sQ_ok co n (st_f lo hi wh co M bd vals lz wd n k f j fr lc se s) e x) ∧ ∀ d x R C, 0 < d → ki_ok lo hi M bd n k d x → k2_ok (wk_ok wh lz) lo hi M bd n k d x R C → bn_ok j fr se d x R → sQ_ok co n (st_f lo hi wh co M bd vals lz wd n k f j fr lc se s) d x := by
  intro f
  induction f with
  | zero => intro j fr lc se s hj hN hI; exact absurd hN.1 (by omega)
  | succ f ih =>
    intro j fr lc se s hjf hN hI
    by_cases hA : ib_ok s.1 s.2.1 s.2.2.1 s.2.2.2.1 se lc 1 n ∧ cb_ok M bd hi se j fr n k
    · by_cases hjn : n ≤ j
      · have ej : j = n := by have := hN.1; omega
        subst ej
        have e : st_f lo hi wh co M bd vals lz wd j k (f + 1) j fr lc se s = ts_s lo hi co M bd vals se j k fr s := (ci_t hA).trans (ci_t (Nat.le_refl _))
        rw [e]
        have st := ts_step (w := wk_ok wh lz) hq hm hN.2.1 hN.2.2.2.1 hN.2.2.1 hI
        refine ⟨st.1, st.2.1, fun d x R C hd hki hK hB => ?_⟩
        obtain ⟨eR, ti, t1, t2, t3⟩ := leaf_c hq hN.2.1 hK hB
        obtain ⟨-, -, -, -, h5, h6, -⟩ := hK
        rw [eR, ← t3] at h5
        rw [← t3] at h6
        exact st.2.2 d x ti hd hki t1 t2 h5 (fun i hi h => hB.2 i hi h) h6
      · have hj : j < n := by omega
        have hn := hq.1.2
        have hb := bt_s1 j (by omega) fr hN.2.1
        have hsv : ∀ t, t ≤ wd j → (¬ wl_f wh lz j = 0 ∨ t = 0 ∨ t = wd j) → sv_ok (wk_ok wh lz) lo hi (vl_f lo co wd j t) j := fun t ht hc => by
          have e := vl_int hq hw hj ht
          have c := hw j hj
          refine ⟨?_, fun hnw => ?_⟩
          · rw [e]
            by_cases z : 0 ≤ (co j).toInt
            · rw [if_pos z]; omega
            · rw [if_neg z]; omega
          · have hc2 := hc.resolve_left (fun q => q (wl_iff.mpr hnw))
            rw [e]
            by_cases z : 0 ≤ (co j).toInt
            · rw [if_pos z]; omega
            · rw [if_neg z]; omega
        -- the values in turn
        have key : ∀ m, m ≤ wd j + 1 → sI_ok (wk_ok wh lz) lo hi M bd co n k (fo_l (st_g wh co lo lz wd j (lc - lc_f lo hi co j) se (fun c z s => st_f lo hi wh co M bd vals lz wd n k f (j + 1) fr c z s)) m s) ∧ (∀ e x, 0 < e → sQ_ok co n s e x → sQ_ok co n (fo_l (st_g wh co lo lz wd j (lc - lc_f lo hi co j) se (fun c z s => st_f lo hi wh co M bd vals lz wd n k f (j + 1) fr c z s)) m s) e x) ∧
            ∀ t, t < m → (¬ wl_f wh lz j = 0 ∨ t = 0 ∨ t = wd j) → ∀ d x R C, 0 < d → ki_ok lo hi M bd n k d x → k2_ok (wk_ok wh lz) lo hi M bd n k d x R C → bn_ok (j + 1) fr (upd se j (vl_f lo co wd j t)) d x R → sQ_ok co n (fo_l (st_g wh co lo lz wd j (lc - lc_f lo hi co j) se (fun c z s => st_f lo hi wh co M bd vals lz wd n k f (j + 1) fr c z s)) m s) d x := by
          intro m
          induction m with
          | zero => intro _; exact ⟨hI, fun _ _ _ h => h, fun t ht => absurd ht (Nat.not_lt_zero _)⟩
          | succ m ihm =>
            intro hm9
            obtain ⟨i1, i2, i3⟩ := ihm (by omega)
            generalize hu : fo_l (st_g wh co lo lz wd j (lc - lc_f lo hi co j) se (fun c z s => st_f lo hi wh co M bd vals lz wd n k f (j + 1) fr c z s)) m s = u at i1 i2 i3
            have es : fo_l (st_g wh co lo lz wd j (lc - lc_f lo hi co j) se (fun c z s => st_f lo hi wh co M bd vals lz wd n k f (j + 1) fr c z s)) (m + 1) s = st_g wh co lo lz wd j (lc - lc_f lo hi co j) se (fun c z s => st_f lo hi wh co M bd vals lz wd n k f (j + 1) fr c z s) m u := by rw [← hu]; rfl
            rw [es]
            by_cases hc : ¬ wl_f wh lz j = 0 ∨ m = 0 ∨ m = wd j
            · have e2 : st_g wh co lo lz wd j (lc - lc_f lo hi co j) se (fun c z s => st_f lo hi wh co M bd vals lz wd n k f (j + 1) fr c z s) m u = st_f lo hi wh co M bd vals lz wd n k f (j + 1) fr (lc - lc_f lo hi co j + co j * vl_f lo co wd j m) (upd se j (vl_f lo co wd j m)) u := ci_t hc
              rw [e2]
              have st := ih (j + 1) fr _ _ u (by omega) (ni_v hq hN hj (hsv m (by omega) hc)) i1
              refine ⟨st.1, fun e x he hQ => st.2.1 e x he (i2 e x he hQ), fun t ht hct d x R C hd hki hK hB => ?_⟩
              rcases Nat.lt_or_eq_of_le (Nat.le_of_lt_succ ht) with q | q
              · exact st.2.1 d x hd (i3 t q hct d x R C hd hki hK hB)
              · subst q
                exact st.2.2 d x R C hd hki hK hB
            · have e2 : st_g wh co lo lz wd j (lc - lc_f lo hi co j) se (fun c z s => st_f lo hi wh co M bd vals lz wd n k f (j + 1) fr c z s) m u = u := ci_n hc
              rw [e2]
              refine ⟨i1, i2, fun t ht hct d x R C hd hki hK hB => ?_⟩
              rcases Nat.lt_or_eq_of_le (Nat.le_of_lt_succ ht) with q | q
              · exact i3 t q hct d x R C hd hki hK hB
              · subst q; exact absurd hct hc
        obtain ⟨g1, g2, g3⟩ := key (wd j + 1) (Nat.le_refl _)
        generalize hu : fo_l (st_g wh co lo lz wd j (lc - lc_f lo hi co j) se (fun c z s => st_f lo hi wh co M bd vals lz wd n k f (j + 1) fr c z s)) (wd j + 1) s = u at g1 g2 g3
        -- a plan below this node with the amount j settled
        have hset : ∀ d x R C, 0 < d → ki_ok lo hi M bd n k d x → k2_ok (wk_ok wh lz) lo hi M bd n k d x R C → bn_ok j fr se d x R → ¬ j ∈ R → sQ_ok co n u d x := fun d x R C hd hki hK hB hjR => by
          obtain ⟨v, hv1, hv2, hv3⟩ := (hK.2.2.2.2.2.2 j hj).resolve_left hjR
          have c := hw j hj
          have hex : ∃ t, t ≤ wd j ∧ (¬ wl_f wh lz j = 0 ∨ t = 0 ∨ t = wd j) ∧ (vl_f lo co wd j t).toInt = v := by
            by_cases z : 0 ≤ (co j).toInt
            · refine ⟨(v - (lo j).toInt).toNat, by omega, ?_, ?_⟩
              · by_cases y : wl_f wh lz j = 0
                · have := hv3 (wl_iff.mp y); omega
                · exact Or.inl y
              · rw [vl_int hq hw hj (by omega), if_pos z]; omega
            · refine ⟨wd j - (v - (lo j).toInt).toNat, by omega, ?_, ?_⟩
              · by_cases y : wl_f wh lz j = 0
                · have := hv3 (wl_iff.mp y); omega
                · exact Or.inl y
              · rw [vl_int hq hw hj (by omega), if_neg z]; omega
          obtain ⟨t, t1, t2, t3⟩ := hex
          refine g3 t (by omega) t2 d x R C hd hki hK ⟨fun i hi => ?_, fun i hi h => ?_⟩
          · rcases Nat.lt_or_eq_of_le (Nat.le_of_lt_succ hi) with q | q
            · exact hB.1 i q
            · rw [q]; exact ⟨fun z => absurd z hjR, fun z => absurd hb.1.2.2 z⟩
          · rcases Nat.lt_or_eq_of_le (Nat.le_of_lt_succ hi) with q | q
            · rw [pk_un (by omega)]; exact hB.2 i q h
            · rw [q, pk_us, t3]; exact hv2
        by_cases hfree : wl_f wh lz j = 0 ∧ ¬ wd j = 0
        · have e : st_f lo hi wh co M bd vals lz wd n k (f + 1) j fr lc se s = st_f lo hi wh co M bd vals lz wd n k f (j + 1) (fr + 2 ^ j) lc se u := by rw [← hu]; exact (ci_t hA).trans ((ci_n hjn).trans (ci_t hfree))
          rw [e]
          have st := ih (j + 1) (fr + 2 ^ j) lc se u (by omega) (ni_f hq hN hj (wl_iff.mp hfree.1)) g1
          refine ⟨st.1, fun e x he hQ => st.2.1 e x he (g2 e x he hQ), fun d x R C hd hki hK hB => ?_⟩
          by_cases hjR : j ∈ R
          · refine st.2.2 d x R C hd hki hK ⟨fun i hi => ?_, fun i hi h => ?_⟩
            · rcases Nat.lt_or_eq_of_le (Nat.le_of_lt_succ hi) with q | q
              · rw [hb.2 i q]; exact hB.1 i q
              · rw [q]; exact ⟨fun _ => hb.1.2.1, fun _ => hjR⟩
            · rcases Nat.lt_or_eq_of_le (Nat.le_of_lt_succ hi) with q | q
              · exact hB.2 i q (by rw [← hb.2 i q]; exact h)
              · rw [q] at h; exact absurd h hb.1.2.1
          · exact st.2.1 d x hd (hset d x R C hd hki hK hB hjR)
        · have e : st_f lo hi wh co M bd vals lz wd n k (f + 1) j fr lc se s = u := by rw [← hu]; exact (ci_t hA).trans ((ci_n hjn).trans (ci_n hfree))
          rw [e]
          refine ⟨g1, g2, fun d x R C hd hki hK hB => hset d x R C hd hki hK hB (fun hjR => hfree ?_)⟩
          obtain ⟨t, ht, et⟩ := gd_mem.mp hjR
          have h9 := hK.2.2.2.1 t ht
          rw [et] at h9
          have c := hw j hj
          exact ⟨wl_iff.mpr h9.1, by omega⟩
    · have e : st_f lo hi wh co M bd vals lz wd n k (f + 1) j fr lc se s = s := ci_n hA
      rw [e]
      refine ⟨hI, fun _ _ _ h => h, fun d x R C hd hki hK hB => ?_⟩
      by_cases h1 : ib_ok s.1 s.2.1 s.2.2.1 s.2.2.2.1 se lc 1 n
      · exact (pr_2 hq hN (fun h2 => hA ⟨h1, h2⟩) hd hki hB).elim
      · exact pr_1 hq hI hN h1 hd hki hB
end DH
