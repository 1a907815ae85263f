/-! trees, as pure functions -/
theorem up_back {f : Nat → Int32} {j : Nat} {v : Int32} : upd (upd f j v) j (f j) = f := by
  funext i
  by_cases h : i = j
  · subst h; exact pk_us
  · rw [pk_un h, pk_un h]
def er_row (num : Nat → Int32) (fr : Nat) (co : Nat → Int32) (M : Nat → Nat → Int32) (bd : Nat → Int32) (k : Nat) : Nat → Int64 := fun t9 =>
  if t9 = 0 then (num fr).toInt64 else if t9 < 5 then en_e num fr (num fr).toInt64 (co (t9 - 1)) (fun i9 => M i9 (t9 - 1)) k else en_b num fr bd k
theorem er_at {R1 R0 : Nat → Int64} {ro : Nat} {num : Nat → Int32} {fr : Nat} {co : Nat → Int32} {M : Nat → Nat → Int32} {bd : Nat → Int32} {k : Nat} (h : er_ok R1 R0 ro num fr co M bd k) : ∀ t9, t9 < 6 → R1 (ro + t9) = er_row num fr co M bd k t9 := by
  intro t9 h9
  unfold er_row
  by_cases h0 : t9 = 0
  · rw [if_pos h0, h0]; exact h.1.1
  · rw [if_neg h0]
    by_cases h5 : t9 < 5
    · rw [if_pos h5, ← h.1.2.1 (t9 - 1) (by omega)]; congr 1; omega
    · rw [if_neg h5, ← h.2]; congr 1; omega
theorem ie_congr_s {R R' : Nat → Int64} {ro : Nat} {bl bm : Nat → Int32} (h : ∀ t9, t9 < 6 → R (ro + t9) = R' t9) : ∀ j, j ≤ 4 → ie_s R ro bl bm j = ie_s R' 0 bl bm j
  | 0, _ => by
    show -(R (ro + 1 + 4)) = -(R' (0 + 1 + 4))
    rw [show ro + 1 + 4 = ro + 5 by omega, h 5 (by omega)]
  | j + 1, hj => by
    show ie_s R ro bl bm j + R (ro + 1 + j) * _ = ie_s R' 0 bl bm j + R' (0 + 1 + j) * _
    rw [ie_congr_s h j (by omega), show ro + 1 + j = ro + (1 + j) by omega, h (1 + j) (by omega), show 0 + 1 + j = 1 + j by omega]
theorem ie_congr {R R' : Nat → Int64} {ro : Nat} {bl bm : Nat → Int32} {n : Nat} {bp bq : Int64} (hn : n ≤ 4) (h : ∀ t9, t9 < 6 → R (ro + t9) = R' t9) : ie_ok R ro bl bm n bp bq ↔ ie_ok R' 0 bl bm n bp bq := by
  unfold ie_ok
  rw [ie_congr_s h n hn, show R ro = R' 0 from h 0 (by omega)]
/-- the END at a node is sound -/
def ed_ok (en co : Nat → Int32) (M : Nat → Nat → Int32) (bd : Nat → Int32) (n k : Nat) (bp bq : Int64) (bl bm : Nat → Int32) (nd : Nat) : Prop := ie_ok (er_row en (nd * 7) co M bd k) 0 bl bm n bp bq
/-- a node is sound in a box, with so many steps down left -/
def ts_ok (kd fv : Nat → Int32) (fan fin sen : Nat → Nat) (wh : Nat → Int32) (n : Nat) (ed : (Nat → Int32) → (Nat → Int32) → Nat → Prop) : Nat → (Nat → Int32) → (Nat → Int32) → Nat → Prop
  | 0, _, _, _ => False
  | f + 1, bl, bm, nd => ¬ kd nd = 0 ∧ if kd nd = 2 then ed bl bm nd else
      (fan nd < n ∧ ¬ wh (fan nd) = 0 ∧ ¬ fv nd < bl (fan nd) ∧ fv nd < bm (fan nd)) ∧ ts_ok kd fv fan fin sen wh n ed f bl (upd bm (fan nd) (fv nd)) (fin nd) ∧ ts_ok kd fv fan fin sen wh n ed f (upd bl (fan nd) (fv nd + 1)) bm (sen nd)
/-- a boolean that tells whether -/
def tl_ok (P : Prop) (r : Int32) : Prop := (P → r = 1) ∧ (¬ P → r = 0)
theorem tl_1 {P : Prop} {r : Int32} (h : tl_ok P r) (hr : ¬ r = 0) : P := Classical.byContradiction fun q => hr (h.2 q)
theorem tl_0 {P : Prop} {r : Int32} (h : tl_ok P r) (hr : r = 0) : ¬ P := fun q => by have := h.1 q; rw [hr] at this; exact absurd this (by decide)
theorem tl_t {P : Prop} (h : P) : tl_ok P 1 := ⟨fun _ => rfl, fun q => absurd h q⟩
theorem tl_f {P : Prop} (h : ¬ P) : tl_ok P 0 := ⟨fun q => absurd q h, fun _ => rfl⟩
theorem tl_of {P Q : Prop} {r : Int32} (e : Q ↔ P) (h : tl_ok P r) : tl_ok Q r := ⟨fun q => h.1 (e.mp q), fun q => h.2 fun z => q (e.mpr z)⟩
theorem tl_b {P : Prop} {r : Int32} (h : tl_ok P r) : r = 1 ∨ r = 0 := by
  by_cases q : P
  · exact Or.inl (h.1 q)
  · exact Or.inr (h.2 q)
theorem tl_nar {P : Prop} {r : Int32} (h : tl_ok P r) : narrow .boolean (.int r) = .int r := by
  rcases tl_b h with rfl | rfl <;> rfl
section TS
variable {kd fv : Nat → Int32} {fan fin sen : Nat → Nat} {wh : Nat → Int32} {n : Nat} {ed : (Nat → Int32) → (Nat → Int32) → Nat → Prop} {f : Nat} {bl bm : Nat → Int32} {nd : Nat} {r : Int32}
theorem ts_z (h : kd nd = 0) : tl_ok (ts_ok kd fv fan fin sen wh n ed (f + 1) bl bm nd) 0 := tl_f fun q => q.1 h
theorem ts_e (h0 : ¬ kd nd = 0) (h2 : kd nd = 2) (h : tl_ok (ed bl bm nd) r) : tl_ok (ts_ok kd fv fan fin sen wh n ed (f + 1) bl bm nd) r :=
  tl_of ⟨fun q => by have := q.2; rwa [if_pos h2] at this, fun q => ⟨h0, by rw [if_pos h2]; exact q⟩⟩ h
theorem ts_n (h2 : ¬ kd nd = 2) (h : ¬ (fan nd < n ∧ ¬ wh (fan nd) = 0 ∧ ¬ fv nd < bl (fan nd) ∧ fv nd < bm (fan nd))) : tl_ok (ts_ok kd fv fan fin sen wh n ed (f + 1) bl bm nd) 0 :=
  tl_f fun q => by have := q.2; rw [if_neg h2] at this; exact h this.1
theorem ts_1 (h2 : ¬ kd nd = 2) (h : tl_ok (ts_ok kd fv fan fin sen wh n ed f bl (upd bm (fan nd) (fv nd)) (fin nd)) r) (hr : r = 0) : tl_ok (ts_ok kd fv fan fin sen wh n ed (f + 1) bl bm nd) 0 :=
  tl_f fun q => by have := q.2; rw [if_neg h2] at this; exact tl_0 h hr this.2.1
theorem ts_2 {r1 : Int32} (h0 : ¬ kd nd = 0) (h2 : ¬ kd nd = 2) (hg : fan nd < n ∧ ¬ wh (fan nd) = 0 ∧ ¬ fv nd < bl (fan nd) ∧ fv nd < bm (fan nd)) (h1 : tl_ok (ts_ok kd fv fan fin sen wh n ed f bl (upd bm (fan nd) (fv nd)) (fin nd)) r1) (hr : ¬ r1 = 0)
    (h : tl_ok (ts_ok kd fv fan fin sen wh n ed f (upd bl (fan nd) (fv nd + 1)) bm (sen nd)) r) : tl_ok (ts_ok kd fv fan fin sen wh n ed (f + 1) bl bm nd) r :=
  tl_of ⟨fun q => by have := q.2; rw [if_neg h2] at this; exact this.2.2, fun q => ⟨h0, by rw [if_neg h2]; exact ⟨hg, tl_1 h1 hr, q⟩⟩⟩ h
end TS
