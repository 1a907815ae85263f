/-! what the reference tries is a corner -/
theorem bq_1 : ∀ rs, rs ≤ 4 → ∀ v, v < 128 → (∀ t, t < (bl_f v).length → (bl_f v).getD t 0 < rs) → v < 2 ^ rs := by decide +kernel
theorem bq_2 : ∀ rs, rs ≤ 4 → ∀ v, v < 2 ^ rs → pc_n (2 ^ rs - 1 - v) = rs - pc_n v ∧ 2 ^ rs - 1 - v < 2 ^ rs ∧ 2 ^ rs - 1 - (2 ^ rs - 1 - v) = v := by decide +kernel
theorem bq_3b : ∀ rs, rs ≤ 4 → ∀ v, v < 2 ^ rs → ∀ c, c < rs → (bl_f (2 ^ rs - 1 - v)).contains c = !(bl_f v).contains c := by decide +kernel
theorem bq_3 (rs : Nat) (h1 : rs ≤ 4) (v : Nat) (h2 : v < 2 ^ rs) (c : Nat) (h3 : c < rs) : c ∈ bl_f (2 ^ rs - 1 - v) ↔ ¬ c ∈ bl_f v := by
  have h := bq_3b rs h1 v h2 c h3
  rw [← List.contains_iff_mem, ← List.contains_iff_mem, h]
  cases (bl_f v).contains c <;> simp
theorem bq_4 : ∀ rs, rs ≤ 4 → ∀ v, v < 2 ^ rs → ∀ t, t < (bl_f v).length → (bl_f v).getD t 0 < rs := by decide +kernel
theorem gd_map {l : List Nat} {f : Nat → Nat} {t : Nat} (h : t < l.length) : (l.map f).getD t 0 = f (l.getD t 0) := by
  rw [List.getD_eq_getElem?_getD, List.getElem?_map, List.getD_eq_getElem?_getD, List.getElem?_eq_getElem h]; rfl
theorem gd_rng {m t : Nat} {f : Nat → Nat} (h : t < m) : ((List.range m).map f).getD t 0 = f t := by
  rw [gd_map (by simpa using h)]
  congr 1
  rw [List.getD_eq_getElem?_getD, List.getElem?_range h]; rfl
theorem gd_mem {l : List Nat} {x : Nat} : x ∈ l ↔ ∃ t, t < l.length ∧ l.getD t 0 = x := by
  constructor
  · intro h
    obtain ⟨t, ht, e⟩ := List.getElem_of_mem h
    exact ⟨t, ht, by rw [List.getD_eq_getElem?_getD, List.getElem?_eq_getElem ht, Option.getD_some, e]⟩
  · rintro ⟨t, ht, e⟩
    rw [List.getD_eq_getElem?_getD, List.getElem?_eq_getElem ht, Option.getD_some] at e
    rw [← e]; exact List.getElem_mem ht
theorem ic_mono {m : Nat} {l : List Nat} (h : ic_l m l) : ∀ b a, a < b → b < l.length → l.getD a 0 < l.getD b 0 := re_mono (re := fun t => l.getD t 0) (m := l.length) h.1
theorem xd_row2 {rs a b : Nat} (hrs : 1 ≤ rs ∧ rs ≤ 4) (h1 : a < b) (h2 : b < rs) {A : Nat → Nat → Int} (h : ∀ c, c < rs → A a c = A b c) : xd_f rs A = 0 := by
  rw [xd_cg hrs (B := fun r c => if c < rs then A r c else 0) (fun r c _ hc => by rw [if_pos hc])]
  refine xd_row hrs.2 h1 h2 (fun c => ?_)
  by_cases e : c < rs
  · rw [if_pos e, if_pos e]; exact h c e
  · rw [if_neg e, if_neg e]
theorem pr_split {rs T : Nat} {p : Nat → Nat} (hp : ∀ c, c + 1 < rs → p c < p (c + 1)) : ∀ m, m ≤ rs → ∃ β, β ≤ m ∧ (∀ r, r < β → p r < T) ∧ ∀ r, β ≤ r → r < m → T ≤ p r
  | 0, _ => ⟨0, Nat.le_refl _, fun r h => absurd h (Nat.not_lt_zero _), fun r _ h => absurd h (Nat.not_lt_zero _)⟩
  | m + 1, hm => by
    obtain ⟨β, h1, h2, h3⟩ := pr_split (T := T) hp m (by omega)
    by_cases hb : β = m
    · by_cases ht : p m < T
      · refine ⟨m + 1, Nat.le_refl _, fun r hr => ?_, fun r a b => by omega⟩
        rcases Nat.lt_or_eq_of_le (Nat.le_of_lt_succ hr) with q | q
        · exact h2 r (by omega)
        · rw [q]; exact ht
      · refine ⟨m, by omega, fun r hr => h2 r (by omega), fun r a b => ?_⟩
        rcases (show r = m by omega) with rfl
        omega
    · refine ⟨β, by omega, h2, fun r a b => ?_⟩
      rcases Nat.lt_or_eq_of_le (Nat.le_of_lt_succ b) with q | q
      · exact h3 r a q
      · have u := h3 β (Nat.le_refl _) (by omega)
        have v := re_mono hp m β (by omega) (by omega)
        rw [q]; omega
theorem sm_one {f : Nat → Int} {q : Nat} : ∀ n, sm_f (fun c => (if c = q then 1 else 0) * f c) n = if q < n then f q else 0
  | 0 => rfl
  | n + 1 => by
    show sm_f (fun c => (if c = q then 1 else 0) * f c) n + (if n = q then 1 else 0) * f n = _
    rw [sm_one n]
    by_cases h : q < n
    · rw [if_pos h, if_neg (show ¬ n = q by omega), if_pos (show q < n + 1 by omega), Int.zero_mul, Int.add_zero]
    · rw [if_neg h]
      by_cases e : n = q
      · rw [if_pos e, if_pos (show q < n + 1 by omega), Int.one_mul, Int.zero_add, e]
      · rw [if_neg e, if_neg (show ¬ q < n + 1 by omega), Int.zero_mul, Int.add_zero]
section RS
variable {w : Nat → Prop} {lo hi wt bd co : Nat → Int32} {fx : Nat → Int64} {re : Nat → Nat} {rs n k : Nat} {p : Nat → Nat}
/-- the rows of a pick: bounds first, then limits; the free columns, as a set -/
theorem pk_split (hp : ic_ok rs (2 * rs + k) p) (hrs : 1 ≤ rs ∧ rs ≤ 4) (hD : ¬ xd_f rs (ra_f lo hi wt bd fx re rs n p) = 0) :
    ∃ β bm, β ≤ rs ∧ bm < 2 ^ rs ∧ pc_n bm = β ∧ (∀ r, r < β → p r < 2 * rs ∧ (bl_f bm).getD r 0 = p r / 2) ∧ (∀ r, β ≤ r → r < rs → 2 * rs ≤ p r) := by
  obtain ⟨β, h1, h2, h3⟩ := pr_split (T := 2 * rs) hp.1 rs (Nat.le_refl _)
  have hinc : ic_l rs ((List.range β).map (fun r => p r / 2)) := by
    refine ⟨fun t ht => ?_, fun t ht => ?_⟩
    · simp at ht
      rw [gd_rng (by omega), gd_rng ht]
      have a := hp.1 t (by omega)
      rcases Nat.lt_or_eq_of_le (Nat.div_le_div_right (c := 2) (Nat.le_of_lt a)) with q | q
      · exact q
      · exfalso
        refine hD (xd_row2 hrs (Nat.lt_succ_self t) (by omega) (fun c hc => ?_))
        rw [ra_u (h2 t (by omega)) (by omega), ra_u (h2 (t + 1) ht) (by omega), q]
    · simp at ht
      rw [gd_rng ht]
      have := h2 t ht; omega
  obtain ⟨bm, b1, b2⟩ := li_num (l := (List.range β).map (fun r => p r / 2)) ⟨hinc.1, fun t ht => by have := hinc.2 t ht; omega⟩ (by simp; omega)
  have hlt : bm < 2 ^ rs := bq_1 rs hrs.2 bm b1 (by rw [b2]; exact hinc.2)
  refine ⟨β, bm, h1, hlt, ?_, fun r hr => ⟨h2 r hr, ?_⟩, h3⟩
  · rw [← bl_len bm b1, b2]; simp
  · rw [b2, gd_rng hr]
theorem cand_k (hq : pq_ok lo hi co (fun i j => wt (4 * i + j)) bd n k) (hre : re_ok w re rs n) (hfx : fz_ok w lo hi n fx) (hp : ic_ok rs (2 * rs + k) p) (hrs : 1 ≤ rs ∧ rs ≤ 4) {sg be : Int} {X : Nat → Int} (hbe : be = sg * xd_f rs (ra_f lo hi wt bd fx re rs n p)) (hD : ¬ xd_f rs (ra_f lo hi wt bd fx re rs n p) = 0)
    (hX : ∀ c, c < rs → X (re c) = sg * xd_f rs (rc_f (ra_f lo hi wt bd fx re rs n p) (rb_f lo hi wt bd fx re rs n p) c)) (hw : ∀ j, j < n → w j → X j = (fx j).toInt * be) : kn_ok w lo hi (fun i j => wt (4 * i + j)) bd n k be X := by
  obtain ⟨β, bm, h1, h2, h3, h4, h5⟩ := pk_split hp hrs hD
  have q2 := bq_2 rs hrs.2 bm h2
  have h128 : ∀ v, v < 2 ^ rs → v < 128 := fun v hv => Nat.lt_of_lt_of_le hv (by have : 2 ^ rs ≤ 16 := bt_p4 rs hrs.2; omega)
  have hdet := ur_det (fc := 2 ^ rs - 1 - bm) hrs q2.2.1 (A := ra_f lo hi wt bd fx re rs n p) (fun r hr c hc => by
    rw [q2.1, h3] at hr
    have := h4 r (by omega)
    rw [q2.2.2, this.2, ra_u this.1 (by omega)])
  rw [q2.1, h3] at hdet
  have hFl : (bl_f (2 ^ rs - 1 - bm)).length = rs - β := by rw [bl_len _ (h128 _ q2.2.1), q2.1, h3]
  have hF := bq_4 rs hrs.2 _ q2.2.1
  have hFi := bl_ic (h128 _ q2.2.1)
  have hF3 := bq_3 rs hrs.2 bm h2
  generalize bl_f (2 ^ rs - 1 - bm) = FC at hdet hFl hF hFi hF3
  -- the rows' equations
  have heq : ∀ r, r < rs → sm_f (fun c => ra_f lo hi wt bd fx re rs n p r c * X (re c)) rs = rb_f lo hi wt bd fx re rs n p r * be := fun r hr => by
    have e := cr_1 hrs hr (ra_f lo hi wt bd fx re rs n p) (rb_f lo hi wt bd fx re rs n p)
    rw [sm_cg rs (g := fun c => ra_f lo hi wt bd fx re rs n p r c * xd_f rs (rc_f (ra_f lo hi wt bd fx re rs n p) (rb_f lo hi wt bd fx re rs n p) c) * sg) (fun c hc => by rw [hX c hc, Int.mul_comm sg, Int.mul_assoc]), sm_mul, e, hbe, Int.mul_comm sg, Int.mul_assoc]
  refine ⟨FC.map re, (List.range (rs - β)).map (fun b => p (β + b) - 2 * rs), ⟨by simp [hFl], by simp [hFl]; omega⟩, ⟨fun t ht => ?_, fun t ht => ?_⟩, ⟨fun t ht => ?_, fun t ht => ?_⟩, fun t ht => ?_, ?_, fun t ht => ?_, fun j hj => ?_⟩
  · simp at ht
    rw [gd_map (by omega), gd_map ht]
    exact re_mono hre.2.1 _ _ (hFi.1 t ht) (hF _ ht)
  · simp at ht
    rw [gd_map ht]; exact (hre.1 _ (hF t ht)).1
  · simp at ht
    rw [gd_rng (by omega), gd_rng ht]
    have a := hp.1 (β + t) (by omega)
    have b := h5 (β + t) (by omega) (by omega)
    rw [show β + (t + 1) = β + t + 1 by omega]
    omega
  · simp at ht
    rw [gd_rng ht]
    have a := hp.2 (β + t) (by omega)
    have b := h5 (β + t) (by omega) (by omega)
    omega
  · simp at ht
    rw [gd_map ht]; exact (hre.1 _ (hF t ht)).2
  · have hne : ¬ dr_f rs (rs - β) (ra_f lo hi wt bd fx re rs n p) FC = 0 := by
      intro z
      rcases hdet with q | q
      · exact hD (q.trans z)
      · exact hD (by rw [q, z]; rfl)
    intro z
    apply hne
    unfold dl_f at z
    unfold dr_f
    rw [List.length_map, hFl] at z
    by_cases e : rs - β = 0
    · rw [if_pos e] at z; exact absurd z (by decide)
    · rw [if_neg e] at z ⊢
      rw [← z, ← xd_tr ⟨by omega, by omega⟩ (lm_f (nn_f (fun i j => wt (4 * i + j))) (FC.map re) ((List.range (rs - β)).map (fun b => p (β + b) - 2 * rs)))]
      refine xd_cg ⟨by omega, by omega⟩ (fun b a hb ha => ?_)
      rw [show rs - (rs - β) + b = β + b by omega, ra_l (by have := h5 (β + b) (by omega) (by omega); omega) (hF a (by omega)) hrs.2]
      unfold lm_f nn_f
      rw [gd_rng hb, gd_map (show a < FC.length by omega)]
  · simp at ht
    rw [gd_rng ht]
    have hr : β + t < rs := by omega
    have hl : ¬ p (β + t) < 2 * rs := by have := h5 (β + t) (by omega) hr; omega
    have hik : p (β + t) - 2 * rs < k := by have := hp.2 (β + t) hr; omega
    have e := heq (β + t) hr
    have b := hq.2.2.2 _ hik
    rw [rb_l hl, (lf_int (wt := wt) (fx := fx) b.2 n hq.1.2 (fun j hj => ⟨b.1 j hj, fzb_20 hq hfx hj⟩)).1] at e
    have e2 : sm_f (fun j => (wt (4 * (p (β + t) - 2 * rs) + j)).toInt * (X j - (fx j).toInt * be)) n = sm_f (fun c => ra_f lo hi wt bd fx re rs n p (β + t) c * X (re c)) rs := by
      rw [sm_re (w := w) (re := re) n rs hre (fun j hj hwj => by rw [hw j hj hwj, Int.sub_self, Int.mul_zero])]
      refine sm_cg rs (fun c hc => ?_)
      rw [ra_l hl hc hrs.2, (hfx (re c) (hre.1 c hc).1).2 (hre.1 c hc).2, Int.zero_mul, Int.sub_zero]
    have e3 : sm_f (fun j => (wt (4 * (p (β + t) - 2 * rs) + j)).toInt * X j) n = sm_f (fun j => (wt (4 * (p (β + t) - 2 * rs) + j)).toInt * (X j - (fx j).toInt * be)) n + sm_f (fun j => (wt (4 * (p (β + t) - 2 * rs) + j)).toInt * (fx j).toInt) n * be := by
      rw [← sm_mul, ← sm_add]
      refine sm_cg n (fun j hj => ?_)
      rw [Int.mul_sub, Int.mul_assoc]; omega
    rw [e3, e2, e, Int.sub_mul]
    omega
  · by_cases hwj : w j
    · exact Or.inr ⟨(fx j).toInt, (hfx j hj).1 hwj, hw j hj hwj, fun z => absurd hwj z⟩
    · obtain ⟨c, hc, e⟩ := hre.2.2 j hj hwj
      by_cases hm : c ∈ FC
      · obtain ⟨t, ht, et⟩ := gd_mem.mp hm
        exact Or.inl ⟨t, by simpa using ht, by rw [gd_map ht, et, e]⟩
      · have hb : c ∈ bl_f bm := Classical.byContradiction fun z => hm ((hF3 c hc).mpr z)
        obtain ⟨r, hr, er⟩ := gd_mem.mp hb
        rw [bl_len bm (h128 _ h2), h3] at hr
        have g := h4 r hr
        have eq := heq r (by omega)
        rw [sm_cg rs (g := fun c' => (if c' = p r / 2 then 1 else 0) * X (re c')) (fun c' hc' => by rw [ra_u g.1 (by omega)]), sm_one, if_pos (by omega), ← g.2, er, e, rb_u g.1, ← g.2, er, e] at eq
        have a := (hq.2.2.1 j hj).1
        by_cases z : p r % 2 = 0
        · rw [if_pos z] at eq
          exact Or.inr ⟨(lo j).toInt, ⟨Int.le_refl _, a.2.1⟩, eq, fun _ => Or.inl rfl⟩
        · rw [if_neg z] at eq
          exact Or.inr ⟨(hi j).toInt, ⟨a.2.1, Int.le_refl _⟩, eq, fun _ => Or.inr rfl⟩
end RS
