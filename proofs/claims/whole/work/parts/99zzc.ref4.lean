/-! every corner is tried by the reference -/
theorem ic_pw {m : Nat} {l : List Nat} (h : ic_l m l) : l.Pairwise (fun a b => a < b) := by
  rw [List.pairwise_iff_getElem]
  intro i j hi hj hij
  have := ic_mono h j i hij hj
  rw [List.getD_eq_getElem?_getD, List.getD_eq_getElem?_getD, List.getElem?_eq_getElem hi, List.getElem?_eq_getElem hj] at this
  exact this
theorem pw_eq : ∀ (l1 l2 : List Nat), l1.Pairwise (fun a b => a < b) → l2.Pairwise (fun a b => a < b) → (∀ x, x ∈ l1 ↔ x ∈ l2) → l1 = l2
  | [], [], _, _, _ => rfl
  | [], b :: t, _, _, h => absurd ((h b).mpr List.mem_cons_self) List.not_mem_nil
  | a :: t, [], _, _, h => absurd ((h a).mp List.mem_cons_self) List.not_mem_nil
  | a :: t1, b :: t2, h1, h2, h => by
    obtain ⟨p1, q1⟩ := List.pairwise_cons.mp h1
    obtain ⟨p2, q2⟩ := List.pairwise_cons.mp h2
    have e : a = b := by
      rcases List.mem_cons.mp ((h a).mp List.mem_cons_self) with z | z
      · exact z
      · rcases List.mem_cons.mp ((h b).mpr List.mem_cons_self) with y | y
        · exact y.symm
        · have := p2 a z; have := p1 b y; omega
    subst e
    rw [pw_eq t1 t2 q1 q2 (fun x => ?_)]
    constructor
    · intro hx
      rcases List.mem_cons.mp ((h x).mp (List.mem_cons_of_mem _ hx)) with z | z
      · have := p1 x hx; omega
      · exact z
    · intro hx
      rcases List.mem_cons.mp ((h x).mpr (List.mem_cons_of_mem _ hx)) with z | z
      · have := p2 x hx; omega
      · exact z
theorem ic_flt (m : Nat) (P : Nat → Bool) : ic_l m ((List.range m).filter P) := by
  have hp : ((List.range m).filter P).Pairwise (fun a b => a < b) := List.Pairwise.filter _ List.pairwise_lt_range
  have hm : ∀ x ∈ (List.range m).filter P, x < m := fun x hx => List.mem_range.mp (List.mem_filter.mp hx).1
  generalize (List.range m).filter P = l at hp hm
  refine ⟨fun t ht => ?_, fun t ht => hm _ (gd_mem.mpr ⟨t, ht, rfl⟩)⟩
  have := List.pairwise_iff_getElem.mp hp t (t + 1) (by omega) ht (Nat.lt_succ_self t)
  rw [List.getD_eq_getElem?_getD, List.getD_eq_getElem?_getD, List.getElem?_eq_getElem (show t < l.length by omega), List.getElem?_eq_getElem ht]
  exact this
section RC
variable {w : Nat → Prop} {lo hi wt bd co : Nat → Int32} {fx : Nat → Int64} {re : Nat → Nat} {rs n k : Nat}
theorem comp_r (hq : pq_ok lo hi co (fun i j => wt (4 * i + j)) bd n k) (hre : re_ok w re rs n) (hfx : fz_ok w lo hi n fx) (hrs : 1 ≤ rs ∧ rs ≤ 4) {d : Int} {x : Nat → Int} (hk : kn_ok w lo hi (fun i j => wt (4 * i + j)) bd n k d x) (hxw : ∀ j, j < n → w j → x j = (fx j).toInt * d) :
    ∃ p, ic_ok rs (2 * rs + k) p ∧ ¬ xd_f rs (ra_f lo hi wt bd fx re rs n p) = 0 ∧ ∀ c, c < rs → d * xd_f rs (rc_f (ra_f lo hi wt bd fx re rs n p) (rb_f lo hi wt bd fx re rs n p) c) = xd_f rs (ra_f lo hi wt bd fx re rs n p) * x (re c) := by
  obtain ⟨R, C, ⟨hl, hl4⟩, hR, hC, hRw, hdl, hCe, hj⟩ := hk
  have hFi := ic_flt rs (fun c => decide (re c ∈ R))
  have hFm : ∀ c, c ∈ (List.range rs).filter (fun c => decide (re c ∈ R)) ↔ c < rs ∧ re c ∈ R := fun c => by simp
  have hF7 : ic_l 7 ((List.range rs).filter (fun c => decide (re c ∈ R))) := ⟨hFi.1, fun t ht => by have := hFi.2 t ht; omega⟩
  have hFL : ((List.range rs).filter (fun c => decide (re c ∈ R))).length ≤ 4 := Nat.le_trans (List.length_filter_le _ _) (by simp; omega)
  obtain ⟨fm, f1, f2⟩ := li_num hF7 hFL
  have f3 : fm < 2 ^ rs := bq_1 rs hrs.2 fm f1 (by rw [f2]; exact hFi.2)
  rw [← f2] at hFi hFm
  have hRe : R = (bl_f fm).map re := by
    refine pw_eq R _ (ic_pw hR) ?_ (fun y => ?_)
    · rw [List.pairwise_map]
      refine List.Pairwise.imp_of_mem (fun {a b} ha hb hab => ?_) (ic_pw hFi)
      exact re_mono hre.2.1 b a hab ((hFm b).mp hb).1
    · constructor
      · intro hy
        obtain ⟨t, ht, e⟩ := gd_mem.mp hy
        obtain ⟨c, hc, e2⟩ := hre.2.2 y (by rw [← e]; exact hR.2 t ht) (by rw [← e]; exact hRw t ht)
        exact List.mem_map.mpr ⟨c, (hFm c).mpr ⟨hc, by rw [e2]; exact hy⟩, e2⟩
      · intro hy
        obtain ⟨c, hc, e⟩ := List.mem_map.mp hy
        rw [← e]; exact ((hFm c).mp hc).2
  have hs : (bl_f fm).length = R.length := by rw [hRe, List.length_map]
  have hpc : pc_n fm = R.length := by rw [← bl_len fm f1]; exact hs
  have hsr : R.length ≤ rs := by
    rw [← hs]
    rw [f2]
    exact Nat.le_trans (List.length_filter_le _ _) (by simp)
  have q2 := bq_2 rs hrs.2 fm f3
  have h128 : 2 ^ rs - 1 - fm < 128 := Nat.lt_of_lt_of_le q2.2.1 (by have : 2 ^ rs ≤ 16 := bt_p4 rs hrs.2; omega)
  have hBl : (bl_f (2 ^ rs - 1 - fm)).length = rs - R.length := by rw [bl_len _ h128, q2.1, hpc]
  have hBi := bl_ic h128
  have hB4 := bq_4 rs hrs.2 _ q2.2.1
  have hB3 := bq_3 rs hrs.2 fm f3
  generalize hβ : rs - R.length = β at hBl
  generalize hBC : bl_f (2 ^ rs - 1 - fm) = BC at hBl hBi hB4 hB3
  -- a column that is not free stands at an end
  have hend : ∀ c, c < rs → ¬ c ∈ bl_f fm → x (re c) = (lo (re c)).toInt * d ∨ x (re c) = (hi (re c)).toInt * d := fun c hc hn => by
    rcases hj (re c) (hre.1 c hc).1 with ⟨t, ht, e⟩ | ⟨v, -, e, hv⟩
    · exact absurd ((hFm c).mpr ⟨hc, gd_mem.mpr ⟨t, ht, e⟩⟩) hn
    · rcases hv (hre.1 c hc).2 with z | z
      · exact Or.inl (by rw [e, z])
      · exact Or.inr (by rw [e, z])
  have hBn : ∀ r, r < β → BC.getD r 0 < rs ∧ ¬ BC.getD r 0 ∈ bl_f fm := fun r hr => by
    have h1 := hB4 r (by omega)
    exact ⟨h1, (hB3 _ h1).mp (gd_mem.mpr ⟨r, by omega, rfl⟩)⟩
  refine ⟨fun r => if r < β then (if x (re (BC.getD r 0)) = (lo (re (BC.getD r 0))).toInt * d then 2 * BC.getD r 0 else 2 * BC.getD r 0 + 1) else 2 * rs + C.getD (r - β) 0, ⟨fun r hr => ?_, fun r hr => ?_⟩, ?_⟩
  · dsimp only
    by_cases h1 : r + 1 < β
    · rw [if_pos (show r < β by omega), if_pos h1]
      have := hBi.1 r (by omega)
      split <;> split <;> omega
    · rw [if_neg h1]
      by_cases h2 : r < β
      · rw [if_pos h2]
        have := (hBn r h2).1
        split <;> omega
      · rw [if_neg h2]
        have := hC.1 (r - β) (by omega)
        rw [show r + 1 - β = r - β + 1 by omega]
        omega
  · dsimp only
    by_cases h1 : r < β
    · rw [if_pos h1]
      have := (hBn r h1).1
      split <;> omega
    · rw [if_neg h1]
      have := hC.2 (r - β) (by omega)
      omega
  · generalize hpd : (fun r => if r < β then (if x (re (BC.getD r 0)) = (lo (re (BC.getD r 0))).toInt * d then 2 * BC.getD r 0 else 2 * BC.getD r 0 + 1) else 2 * rs + C.getD (r - β) 0) = p
    have p1 : ∀ r, r < β → p r < 2 * rs ∧ p r / 2 = BC.getD r 0 ∧ x (re (BC.getD r 0)) = (if p r % 2 = 0 then (lo (re (BC.getD r 0))).toInt else (hi (re (BC.getD r 0))).toInt) * d := fun r hr => by
      have h1 := hBn r hr
      have h2 := hend _ h1.1 h1.2
      have e : p r = if x (re (BC.getD r 0)) = (lo (re (BC.getD r 0))).toInt * d then 2 * BC.getD r 0 else 2 * BC.getD r 0 + 1 := by rw [← hpd]; exact if_pos hr
      by_cases z : x (re (BC.getD r 0)) = (lo (re (BC.getD r 0))).toInt * d
      · rw [if_pos z] at e
        rw [e, if_pos (by omega)]
        exact ⟨by omega, by omega, z⟩
      · rw [if_neg z] at e
        rw [e, if_neg (by omega)]
        exact ⟨by omega, by omega, h2.resolve_left z⟩
    have p2 : ∀ b, b < R.length → p (β + b) = 2 * rs + C.getD b 0 := fun b hb => by
      rw [← hpd]
      show (if β + b < β then _ else _) = _
      rw [if_neg (by omega), show β + b - β = b by omega]
    have hdet := ur_det (fc := fm) hrs f3 (A := ra_f lo hi wt bd fx re rs n p) (fun r hr c hc => by
      rw [hpc, hβ] at hr
      have g := p1 r hr
      rw [hBC, ra_u g.1 (by omega), g.2.1])
    rw [hpc] at hdet
    have hdr : dr_f rs R.length (ra_f lo hi wt bd fx re rs n p) (bl_f fm) = dl_f (nn_f (fun i j => wt (4 * i + j))) R C := by
      unfold dr_f dl_f
      by_cases e : R.length = 0
      · rw [if_pos e, if_pos e]
      · rw [if_neg e, if_neg e, ← xd_tr ⟨by omega, hl4⟩ (lm_f (nn_f (fun i j => wt (4 * i + j))) R C)]
        refine xd_cg ⟨by omega, hl4⟩ (fun b a hb ha => ?_)
        rw [hβ, ra_l (by rw [p2 b hb]; omega) (hFi.2 a (by omega)) hrs.2, p2 b hb]
        unfold lm_f nn_f
        have e9 : R.getD a 0 = re ((bl_f fm).getD a 0) := by
          have := gd_map (l := bl_f fm) (f := re) (t := a) (by omega)
          rw [← hRe] at this; exact this
        rw [e9, show 2 * rs + C.getD b 0 - 2 * rs = C.getD b 0 by omega]
    rw [hdr] at hdet
    have hD : ¬ xd_f rs (ra_f lo hi wt bd fx re rs n p) = 0 := by
      intro z
      rcases hdet with q | q
      · exact hdl (q.symm.trans z)
      · exact hdl (by omega)
    refine ⟨hD, fun c hc => cr_u (x := fun c => x (re c)) hrs hc (fun r hr => ?_)⟩
    by_cases h1 : r < β
    · have g := p1 r h1
      rw [sm_cg rs (g := fun c' => (if c' = p r / 2 then 1 else 0) * x (re c')) (fun c' hc' => by rw [ra_u g.1 (by omega)]), sm_one, if_pos (by have := g.1; omega), rb_u g.1, g.2.1, g.2.2, Int.mul_comm]
    · have hb : r - β < R.length := by omega
      have er := p2 (r - β) hb
      rw [show β + (r - β) = r by omega] at er
      have hnl : ¬ p r < 2 * rs := by omega
      have hik : C.getD (r - β) 0 < k := hC.2 _ (by omega)
      have bb := hq.2.2.2 _ hik
      rw [rb_l hnl, er, show 2 * rs + C.getD (r - β) 0 - 2 * rs = C.getD (r - β) 0 by omega, (lf_int (wt := wt) (fx := fx) bb.2 n hq.1.2 (fun j hj => ⟨bb.1 j hj, fzb_20 hq hfx hj⟩)).1]
      have e0 := hCe (r - β) (by omega)
      have e2 : sm_f (fun j => (wt (4 * C.getD (r - β) 0 + j)).toInt * (x j - (fx j).toInt * d)) n = sm_f (fun c => ra_f lo hi wt bd fx re rs n p r c * x (re c)) rs := by
        rw [sm_re (w := w) (re := re) n rs hre (fun j hj hwj => by rw [hxw j hj hwj, Int.sub_self, Int.mul_zero])]
        refine sm_cg rs (fun c hc => ?_)
        rw [ra_l hnl hc hrs.2, er, show 2 * rs + C.getD (r - β) 0 - 2 * rs = C.getD (r - β) 0 by omega, (hfx (re c) (hre.1 c hc).1).2 (hre.1 c hc).2, Int.zero_mul, Int.sub_zero]
      have e3 : sm_f (fun j => (wt (4 * C.getD (r - β) 0 + j)).toInt * x j) n = sm_f (fun j => (wt (4 * C.getD (r - β) 0 + j)).toInt * (x j - (fx j).toInt * d)) n + sm_f (fun j => (wt (4 * C.getD (r - β) 0 + j)).toInt * (fx j).toInt) n * d := by
        rw [← sm_mul, ← sm_add]
        refine sm_cg n (fun j hj => ?_)
        rw [Int.mul_sub, Int.mul_assoc]; omega
      rw [← e2, Int.mul_sub, Int.mul_comm d, ← e0, Int.mul_comm d, e3]
      omega
end RC
