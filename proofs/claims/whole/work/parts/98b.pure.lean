section SP
variable {kd fv : Nat → Int32} {fan fin sen : Nat → Nat} {wh co wt bd wa : Nat → Int32} {en : Nat → Int64} {n k nd m : Nat} {pp qp : Int64} {TS : (Nat → Int32) → (Nat → Int32) → Nat → Prop}
theorem so_nd (hne : wa (9 * m) = nI nd) (hnd : nd < 40) (h : ¬ TS (sb_l wa (9 * m)) (sb_u wa (9 * m)) nd) : ¬ TS (sb_l wa (9 * m)) (sb_u wa (9 * m)) (wa (9 * m)).toNatClampNeg := by rw [hne, nI_clamp (by omega)]; exact h
theorem so_yd (hne : wa (9 * m) = nI nd) (hnd : nd < 40) (h : TS (sb_l wa (9 * m)) (sb_u wa (9 * m)) nd) : TS (sb_l wa (9 * m)) (sb_u wa (9 * m)) (wa (9 * m)).toNatClampNeg := by rw [hne, nI_clamp (by omega)]; exact h
theorem so_te (hn : n ≤ 4) (h0 : ¬ kd nd = 0) (h2 : kd nd = 2) (h : mi_ok en co wt bd wa nd (9 * m) n k pp qp) : tq_ok kd fv fan fin sen wh n (mj_ok en co wt bd n k pp qp) (sb_l wa (9 * m)) (sb_u wa (9 * m)) nd := (tq_e h0 h2).mpr ((mj_iff hn).mp h)
theorem so_ne (hn : n ≤ 4) (h0 : ¬ kd nd = 0) (h2 : kd nd = 2) (h : ¬ mi_ok en co wt bd wa nd (9 * m) n k pp qp) : ¬ tq_ok kd fv fan fin sen wh n (mj_ok en co wt bd n k pp qp) (sb_l wa (9 * m)) (sb_u wa (9 * m)) nd := fun q => h ((mj_iff hn).mpr ((tq_e h0 h2).mp q))
theorem so_ab {x : Int32} (h : x = 0 ∨ x = 1 ∨ x = 2) (h0 : ¬ x = 0) (h1 : ¬ x = 1) (h2 : ¬ x = 2) : False := h.elim h0 (fun z => z.elim h1 h2)
theorem so_k1 {x : Int32} (h : x = 1) : ¬ x = 0 ∧ ¬ x = 2 := by subst h; decide
theorem so_x {ed : (Nat → Int32) → (Nat → Int32) → Nat → Prop} (hu : tr_up kd fin sen) (hnd : nd < 40) (h1 : kd nd = 1) (hf : fan nd < 4) (hg : ¬ (fan nd < n ∧ ¬ wh (fan nd) = 0 ∧ ¬ fv nd < wa (9 * m + 1 + fan nd) ∧ fv nd < wa (9 * m + 5 + fan nd))) : ¬ tq_ok kd fv fan fin sen wh n ed (sb_l wa (9 * m)) (sb_u wa (9 * m)) nd := by
  obtain ⟨h0, h2⟩ := so_k1 h1
  rw [tq_eq hu hnd h0 h2]
  intro q
  have q1 := q.1
  rw [show sb_l wa (9 * m) (fan nd) = wa (9 * m + 1 + fan nd) from if_pos hf, show sb_u wa (9 * m) (fan nd) = wa (9 * m + 5 + fan nd) from if_pos hf] at q1
  exact hg q1
theorem so_y {ed : (Nat → Int32) → (Nat → Int32) → Nat → Prop} (hu : tr_up kd fin sen) (hnd : nd < 40) (h1 : kd nd = 1) (hf : fan nd < 4) (hg : fan nd < n ∧ ¬ wh (fan nd) = 0 ∧ ¬ fv nd < wa (9 * m + 1 + fan nd) ∧ fv nd < wa (9 * m + 5 + fan nd)) :
    tq_ok kd fv fan fin sen wh n ed (sb_l wa (9 * m)) (sb_u wa (9 * m)) nd ↔ tq_ok kd fv fan fin sen wh n ed (sb_l wa (9 * m)) (upd (sb_u wa (9 * m)) (fan nd) (fv nd)) (fin nd) ∧ tq_ok kd fv fan fin sen wh n ed (upd (sb_l wa (9 * m)) (fan nd) (fv nd + 1)) (sb_u wa (9 * m)) (sen nd) := by
  obtain ⟨h0, h2⟩ := so_k1 h1
  rw [tq_eq hu hnd h0 h2]
  rw [show sb_l wa (9 * m) (fan nd) = wa (9 * m + 1 + fan nd) from if_pos hf, show sb_u wa (9 * m) (fan nd) = wa (9 * m + 5 + fan nd) from if_pos hf]
  exact ⟨fun q => q.2, fun q => ⟨hg, q⟩⟩
end SP
theorem so_le {wa : Nat → Int32} {m : Nat} (h : so_ent wa m) : m ≤ 40 := by
  by_cases h0 : m = 0
  · omega
  · obtain ⟨nd, h1, h2, -⟩ := h (m - 1) (by omega)
    omega
