/-! which ENDS the planner has: none is left out for want of room -/
def xt_ok (s t : gt_T) : Prop := s.1 ≤ t.1 ∧ ∀ i, i < s.1 * 6 → t.2.1 i = s.2.1 i
theorem xt_r {s : gt_T} : xt_ok s s := ⟨Nat.le_refl _, fun _ _ => rfl⟩
theorem xt_t {s t u : gt_T} (h1 : xt_ok s t) (h2 : xt_ok t u) : xt_ok s u := ⟨Nat.le_trans h1.1 h2.1, fun i hi => by
  rw [h2.2 i (by have := h1.1; omega), h1.2 i hi]⟩
theorem xt_f {g : Nat → gt_T → gt_T} (hg : ∀ t s, xt_ok s (g t s)) {s : gt_T} {m : Nat} : ∀ d, xt_ok (fl_g g m s) (fl_g g (m + d) s)
  | 0 => xt_r
  | d + 1 => xt_t (xt_f hg d) (hg (m + d) _)
def cp_n (zs : Nat) : Nat → Nat
  | 0 => 0
  | m + 1 => cp_n zs m + (if pc_n m = pc_n zs + 1 then 1 else 0)
def cq_n : Nat → Nat
  | 0 => 0
  | z + 1 => cq_n z + cp_n z 128
theorem cq_16 : cq_n 16 = 462 := by decide +kernel
theorem cp_le {zs m : Nat} : ∀ d, cp_n zs m ≤ cp_n zs (m + d)
  | 0 => Nat.le_refl _
  | d + 1 => Nat.le_trans (cp_le d) (Nat.le_add_right _ _)
theorem cq_le {m : Nat} : ∀ d, cq_n m ≤ cq_n (m + d)
  | 0 => Nat.le_refl _
  | d + 1 => Nat.le_trans (cq_le d) (Nat.le_add_right _ _)
section EN
variable {vals co : Nat → Int32} {M : Nat → Nat → Int32} {bd : Nat → Int32} {k th zs c : Nat} {s s0 : gt_T}
theorem gs_x : xt_ok s (gs_f vals co M bd k zs c s) ∧ (gs_f vals co M bd k zs c s).1 ≤ s.1 + 1 := by
  by_cases h : sk_ok (sn_lo vals zs c 7) (sn_hi vals zs c 7) ∧ s.1 < 462
  · have e : gs_f vals co M bd k zs c s = (s.1 + 1, er_wr s.2.1 (s.1 * 6) (nf_f vals zs c s.2.2) co M bd k, nf_f vals zs c s.2.2) := ci_t h
    rw [e]
    refine ⟨⟨Nat.le_add_right _ _, fun i hi => ?_⟩, Nat.le_refl _⟩
    show er_wr s.2.1 (s.1 * 6) (nf_f vals zs c s.2.2) co M bd k i = s.2.1 i
    unfold er_wr
    rw [if_neg (by omega)]
  · have e : gs_f vals co M bd k zs c s = (s.1, s.2.1, nf_f vals zs c s.2.2) := ci_n h
    rw [e]
    exact ⟨⟨Nat.le_refl _, fun _ _ => rfl⟩, Nat.le_add_right _ _⟩
theorem gc_x : xt_ok s (gc_f vals co M bd k th zs c s) ∧ (gc_f vals co M bd k th zs c s).1 ≤ s.1 + (if pc_n c = pc_n zs + 1 then 1 else 0) := by
  by_cases h : 1 ≤ c ∧ c &&& (127 ^^^ th) = 0 ∧ pc_n c = pc_n zs + 1
  · have e : gc_f vals co M bd k th zs c s = gs_f vals co M bd k zs c s := ci_t h
    rw [e, if_pos h.2.2]; exact gs_x
  · have e : gc_f vals co M bd k th zs c s = s := ci_n h
    rw [e]; exact ⟨xt_r, Nat.le_add_right _ _⟩
theorem gc_cn : ∀ m, (fl_g (gc_f vals co M bd k th zs) m s).1 ≤ s.1 + cp_n zs m
  | 0 => Nat.le_refl _
  | m + 1 => by
    have a := gc_cn m
    have b := (gc_x (vals := vals) (co := co) (M := M) (bd := bd) (k := k) (th := th) (zs := zs) (c := m) (s := fl_g (gc_f vals co M bd k th zs) m s)).2
    show (gc_f vals co M bd k th zs m (fl_g (gc_f vals co M bd k th zs) m s)).1 ≤ s.1 + (cp_n zs m + (if pc_n m = pc_n zs + 1 then 1 else 0))
    omega
theorem gr_x (z : Nat) (s : gt_T) : xt_ok s (gr_f vals co M bd k th z s) := by
  have := xt_f (g := gc_f vals co M bd k th z) (fun t s => gc_x.1) (s := s) (m := 0) 128
  exact this
theorem gr_cn : ∀ m, (fl_g (gr_f vals co M bd k th) m s).1 ≤ s.1 + cq_n m
  | 0 => Nat.le_refl _
  | m + 1 => by
    have a := gr_cn m
    have b := gc_cn (vals := vals) (co := co) (M := M) (bd := bd) (k := k) (th := th) (zs := m) (s := fl_g (gr_f vals co M bd k th) m s) 128
    show (fl_g (gc_f vals co M bd k th m) 128 (fl_g (gr_f vals co M bd k th) m s)).1 ≤ s.1 + (cq_n m + cp_n m 128)
    omega
/-- an END that can be made is there -/
theorem en_in {n : Nat} (hn : 2 ^ n ≤ 16) {R : Nat → Int64} {num : Nat → Int32} (hz : zs < 2 ^ n) (hc : 1 ≤ c ∧ c < 128) (ht : c &&& (127 ^^^ th) = 0) (hp : pc_n c = pc_n zs + 1) (hk : sk_ok (sn_lo vals zs c 7) (sn_hi vals zs c 7)) {gs : gt_T} (hg : gs = fl_g (gr_f vals co M bd k th) (2 ^ n) (0, R, num)) :
    ∃ i num0, i < gs.1 ∧ ∀ t, t < 6 → gs.2.1 (i * 6 + t) = er_row (nf_f vals zs c num0) 0 co M bd k t := by
  generalize h1 : fl_g (gr_f vals co M bd k th) zs (0, R, num) = s1
  generalize h2 : fl_g (gc_f vals co M bd k th zs) c s1 = s2
  have c1 : s1.1 ≤ cq_n zs := by
    have := gr_cn (vals := vals) (co := co) (M := M) (bd := bd) (k := k) (th := th) (s := (0, R, num)) zs
    rw [h1] at this
    have e : ((0, R, num) : gt_T).1 = 0 := rfl
    omega
  have c2 : s2.1 ≤ s1.1 + cp_n zs c := by rw [← h2]; exact gc_cn c
  have c3 : cp_n zs c + 1 ≤ cp_n zs 128 := by
    have e : cp_n zs (c + 1) = cp_n zs c + 1 := by
      show cp_n zs c + (if pc_n c = pc_n zs + 1 then 1 else 0) = _
      rw [if_pos hp]
    have := cp_le (zs := zs) (m := c + 1) (128 - (c + 1))
    rw [show c + 1 + (128 - (c + 1)) = 128 by omega] at this
    omega
  have c4 : cq_n zs + cp_n zs 128 ≤ 462 := by
    have := cq_le (m := zs + 1) (16 - (zs + 1))
    rw [show zs + 1 + (16 - (zs + 1)) = 16 by omega, cq_16] at this
    exact this
  have h3 : fl_g (gc_f vals co M bd k th zs) (c + 1) s1 = (s2.1 + 1, er_wr s2.2.1 (s2.1 * 6) (nf_f vals zs c s2.2.2) co M bd k, nf_f vals zs c s2.2.2) := by
    show gc_f vals co M bd k th zs c (fl_g (gc_f vals co M bd k th zs) c s1) = _
    rw [h2]
    exact (ci_t ⟨hc.1, ht, hp⟩).trans (ci_t ⟨hk, by omega⟩)
  have x1 := xt_f (g := gc_f vals co M bd k th zs) (fun t s => gc_x.1) (s := s1) (m := c + 1) (128 - (c + 1))
  rw [show c + 1 + (128 - (c + 1)) = 128 by omega] at x1
  have x2 := xt_f (g := gr_f vals co M bd k th) (fun t s => gr_x t s) (s := (0, R, num)) (m := zs + 1) (2 ^ n - (zs + 1))
  rw [show zs + 1 + (2 ^ n - (zs + 1)) = 2 ^ n by omega, ← hg] at x2
  have e4 : fl_g (gr_f vals co M bd k th) (zs + 1) (0, R, num) = fl_g (gc_f vals co M bd k th zs) 128 s1 := by rw [← h1]; rfl
  rw [e4] at x2
  have x3 := xt_t x1 x2
  rw [h3] at x3
  refine ⟨s2.1, s2.2.2, ?_, fun t ht' => ?_⟩
  · have := x3.1
    dsimp only at this
    omega
  · rw [x3.2 (s2.1 * 6 + t) (by dsimp only; omega)]
    show er_wr s2.2.1 (s2.1 * 6) (nf_f vals zs c s2.2.2) co M bd k (s2.1 * 6 + t) = _
    unfold er_wr
    rw [if_pos (by omega), show s2.1 * 6 + t - s2.1 * 6 = t by omega]
end EN
