def fs_ok (s : sg_T) : Prop := s.1 = 0 ∨ s.1 = 1
theorem fo_b {g : Nat → sg_T → sg_T} (hg : ∀ t s, fs_ok s → fs_ok (g t s)) : ∀ (m : Nat) (s : sg_T), fs_ok s → fs_ok (fo_l g m s)
  | 0, _, h => h
  | m + 1, s, h => hg m _ (fo_b hg m s h)
theorem ci_b {P : Prop} {x y : sg_T} (hx : fs_ok x) (hy : fs_ok y) : fs_ok (ci_f P x y) := by
  by_cases h : P
  · rw [ci_t h]; exact hx
  · rw [ci_n h]; exact hy
section SB
variable {lo hi wh co : Nat → Int32} {M : Nat → Nat → Int32} {bd vals se : Nat → Int32} {lz : Int32} {wd : Nat → Nat} {n k fr ti : Nat} {s : sg_T}
theorem tc_b (h : fs_ok s) : fs_ok (tc_s lo hi co M bd vals se n k fr ti s) := ci_b h (ci_b (Or.inr rfl) h)
theorem ts_b (h : fs_ok s) : fs_ok (ts_s lo hi co M bd vals se n k fr s) := ci_b (tc_b h) (fo_b (fun _ _ h => ci_b (tc_b h) h) _ _ h)
theorem st_bb : ∀ (f j fr : Nat) (lc : Int32) (se : Nat → Int32) (s : sg_T), fs_ok s → fs_ok (st_f lo hi wh co M bd vals lz wd n k f j fr lc se s)
  | 0, _, _, _, _, _, h => h
  | f + 1, j, fr, lc, se, s, h => by
    have hl : fs_ok (fo_l (st_g wh co lo lz wd j (lc - lc_f lo hi co j) se (fun c z s => st_f lo hi wh co M bd vals lz wd n k f (j + 1) fr c z s)) (wd j + 1) s) := fo_b (fun _ _ h => ci_b (st_bb f _ _ _ _ _ h) h) _ _ h
    exact ci_b (ci_b (ts_b h) (ci_b (st_bb f _ _ _ _ _ hl) hl)) h
end SB
theorem fs_nar {s : sg_T} (h : fs_ok s) : narrow .boolean (.int s.1) = .int s.1 := by
  rcases h with h | h <;> rw [h] <;> rfl
