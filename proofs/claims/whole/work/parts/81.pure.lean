/-! the planner's own proof, as pure functions -/
def sn_s (cl : Nat) : Nat → Int32
  | 0 => 1
  | c + 1 => if cl / 2 ^ c % 2 = 0 then sn_s cl c else -(sn_s cl c)
def sn_n (vals : Nat → Int32) (zs cl c : Nat) : Int32 := if cl / 2 ^ c % 2 = 0 then 0 else sn_s cl c * vals (zs * 128 + (cl ^^^ 2 ^ c))
def sn_lo (vals : Nat → Int32) (zs cl : Nat) : Nat → Int32
  | 0 => 0
  | c + 1 => if sn_n vals zs cl c < sn_lo vals zs cl c then sn_n vals zs cl c else sn_lo vals zs cl c
def sn_hi (vals : Nat → Int32) (zs cl : Nat) : Nat → Int32
  | 0 => 0
  | c + 1 => if sn_hi vals zs cl c < sn_n vals zs cl c then sn_n vals zs cl c else sn_hi vals zs cl c
def nb_f (vals : Nat → Int32) (zs cl : Nat) (num : Nat → Int32) : Nat → (Nat → Int32)
  | 0 => num
  | c + 1 => upd (nb_f vals zs cl num c) (if c = 6 then 0 else c + 1) (sn_n vals zs cl c)
def tn_f (num : Nat → Int32) : Nat → Int32 := mx_f (fun i => -(num i)) num 7
def nf_f (vals : Nat → Int32) (zs cl : Nat) (num : Nat → Int32) : Nat → Int32 := if sn_hi vals zs cl 7 = 0 then tn_f (nb_f vals zs cl num 7) else nb_f vals zs cl num 7
/-- the numbers make an END: none is below 0 (after a turn), not all are 0 -/
def sk_ok (lo hi : Int32) : Prop := (0 ≤ lo → ¬ hi ≤ 0) ∧ (¬ 0 ≤ lo → hi = 0)
theorem sk_a {lo hi : Int32} (h1 : 0 ≤ lo) (h2 : hi ≤ 0) : tl_ok (sk_ok lo hi) 0 := tl_f (fun q => q.1 h1 h2)
theorem sk_b {lo hi : Int32} (h1 : 0 ≤ lo) (h2 : ¬ hi ≤ 0) : tl_ok (sk_ok lo hi) 1 := tl_t ⟨fun _ => h2, fun q => absurd h1 q⟩
theorem sk_c {lo hi : Int32} (h1 : ¬ 0 ≤ lo) (h2 : hi = 0) : tl_ok (sk_ok lo hi) 1 := tl_t ⟨fun q => absurd q h1, fun _ => h2⟩
theorem sk_d {lo hi : Int32} (h1 : ¬ 0 ≤ lo) (h2 : ¬ hi = 0) : tl_ok (sk_ok lo hi) 0 := tl_f (fun q => h2 (q.2 h1))
theorem mx_n {num n1 : Nat → Int32} {j : Nat} (e : n1 = mx_f (fun i => -(num i)) num j) : upd n1 j (-(n1 j)) = mx_f (fun i => -(num i)) num (j + 1) := by
  have h : n1 j = num j := by rw [e]; simp [mx_f]
  rw [h]; exact mx_u e
def er_wr (R0 : Nat → Int64) (ro : Nat) (num co : Nat → Int32) (M : Nat → Nat → Int32) (bd : Nat → Int32) (k : Nat) : Nat → Int64 := fun t9 => if ro ≤ t9 ∧ t9 < ro + 6 then er_row num 0 co M bd k (t9 - ro) else R0 t9
theorem er_fun {R1 R0 : Nat → Int64} {ro : Nat} {num co : Nat → Int32} {M : Nat → Nat → Int32} {bd : Nat → Int32} {k : Nat} (h : er_ok R1 R0 ro num 0 co M bd k) : R1 = er_wr R0 ro num co M bd k := by
  funext t9
  unfold er_wr
  by_cases h1 : ro ≤ t9 ∧ t9 < ro + 6
  · rw [if_pos h1, ← er_at h (t9 - ro) (by omega)]; congr 1; omega
  · rw [if_neg h1]; exact h.1.2.2 t9 (by omega)
abbrev gt_T : Type := Nat × (Nat → Int64) × (Nat → Int32)
def fl_g (g : Nat → gt_T → gt_T) : Nat → gt_T → gt_T
  | 0, s => s
  | t + 1, s => g t (fl_g g t s)
noncomputable def gs_f (vals co : Nat → Int32) (M : Nat → Nat → Int32) (bd : Nat → Int32) (k zs c : Nat) (s : gt_T) : gt_T :=
  ci_f (sk_ok (sn_lo vals zs c 7) (sn_hi vals zs c 7) ∧ s.1 < 462) (s.1 + 1, er_wr s.2.1 (s.1 * 6) (nf_f vals zs c s.2.2) co M bd k, nf_f vals zs c s.2.2) (s.1, s.2.1, nf_f vals zs c s.2.2)
noncomputable def gc_f (vals co : Nat → Int32) (M : Nat → Nat → Int32) (bd : Nat → Int32) (k th zs : Nat) : Nat → gt_T → gt_T := fun c s => ci_f (1 ≤ c ∧ c &&& (127 ^^^ th) = 0 ∧ pc_n c = pc_n zs + 1) (gs_f vals co M bd k zs c s) s
noncomputable def gr_f (vals co : Nat → Int32) (M : Nat → Nat → Int32) (bd : Nat → Int32) (k th : Nat) : Nat → gt_T → gt_T := fun zs s => fl_g (gc_f vals co M bd k th zs) 128 s
def th_f (wc : Int32) (k : Nat) : Nat := if wc = 0 then 2 ^ k - 1 else cs_n k
theorem th_lt {wc : Int32} {k : Nat} (hk : k ≤ 6) : th_f wc k < 128 := by
  have := bt_64 k hk
  unfold th_f cs_n
  split <;> omega
theorem bt_x64 : ∀ k, k < 7 → nI (cs_n k) ^^^ 64 = nI (2 ^ k - 1) := by decide +kernel
section GA
variable {vals co : Nat → Int32} {M : Nat → Nat → Int32} {bd : Nat → Int32} {k th zs c e : Nat} {s s2 z : gt_T} {R R1 : Nat → Int64} {num num1 : Nat → Int32}
theorem gc_0 : s = fl_g (gc_f vals co M bd k th zs) 1 s := (ci_n (P := 1 ≤ 0 ∧ 0 &&& (127 ^^^ th) = 0 ∧ pc_n 0 = pc_n zs + 1) (fun q => absurd q.1 (by decide))).symm
theorem gc_n (hv : s2 = fl_g (gc_f vals co M bd k th zs) c s) (hq : ¬ (1 ≤ c ∧ c &&& (127 ^^^ th) = 0 ∧ pc_n c = pc_n zs + 1)) : s2 = fl_g (gc_f vals co M bd k th zs) (c + 1) s := by
  rw [hv]; exact (ci_n hq).symm
theorem gc_y (hv : s2 = fl_g (gc_f vals co M bd k th zs) c s) (hq : 1 ≤ c ∧ c &&& (127 ^^^ th) = 0 ∧ pc_n c = pc_n zs + 1) (hz : z = gs_f vals co M bd k zs c s2) : z = fl_g (gc_f vals co M bd k th zs) (c + 1) s := by
  rw [hz, hv]; exact (ci_t hq).symm
theorem gs_n (hq : ¬ (sk_ok (sn_lo vals zs c 7) (sn_hi vals zs c 7) ∧ e < 462)) (hn : num1 = nf_f vals zs c num) : (e, R, num1) = gs_f vals co M bd k zs c (e, R, num) := by
  rw [hn]; exact (ci_n hq).symm
theorem gs_y (hq : sk_ok (sn_lo vals zs c 7) (sn_hi vals zs c 7) ∧ e < 462) (hn : num1 = nf_f vals zs c num) (hR : er_ok R1 R (e * 6) num1 0 co M bd k) : (e + 1, R1, num1) = gs_f vals co M bd k zs c (e, R, num) := by
  rw [er_fun hR, hn]; exact (ci_t hq).symm
theorem gr_s {z0 : gt_T} (hv : s = fl_g (gr_f vals co M bd k th) zs z0) (hw : s2 = fl_g (gc_f vals co M bd k th zs) 128 s) : s2 = fl_g (gr_f vals co M bd k th) (zs + 1) z0 := by
  rw [hw, hv]; rfl
end GA
def he_ok (R : Nat → Int64) (e n : Nat) (bp bq : Int64) (bl bm : Nat → Int32) : Prop := ∃ i, i < e ∧ ie_ok R (i * 6) bl bm n bp bq
def wi_f (wh bl bm : Nat → Int32) : Nat → Int32 × Int32
  | 0 => (-1, 0)
  | j + 1 => if ¬ wh j = 0 ∧ ¬ bm j - bl j ≤ (wi_f wh bl bm j).2 then (nI j, bm j - bl j) else wi_f wh bl bm j
theorem wi_t {wh bl bm : Nat → Int32} {j : Nat} (h : ¬ wh j = 0 ∧ ¬ bm j - bl j ≤ (wi_f wh bl bm j).2) : (nI j = (wi_f wh bl bm (j + 1)).1) ∧ (bm j - bl j = (wi_f wh bl bm (j + 1)).2) := by
  have e : wi_f wh bl bm (j + 1) = (nI j, bm j - bl j) := if_pos h
  rw [e]; exact ⟨rfl, rfl⟩
theorem wi_n {wh bl bm : Nat → Int32} {j : Nat} (h : ¬ (¬ wh j = 0 ∧ ¬ bm j - bl j ≤ (wi_f wh bl bm j).2)) : wi_f wh bl bm j = wi_f wh bl bm (j + 1) := (if_neg h).symm
theorem wi_in {wh bl bm : Nat → Int32} : ∀ n, (wi_f wh bl bm n).1 = -1 ∨ ∃ j, j < n ∧ (wi_f wh bl bm n).1 = nI j
  | 0 => Or.inl rfl
  | n + 1 => by
    by_cases h : ¬ wh n = 0 ∧ ¬ bm n - bl n ≤ (wi_f wh bl bm n).2
    · exact Or.inr ⟨n, by omega, (wi_t h).1.symm⟩
    · rw [← wi_n h]
      rcases wi_in n with h1 | ⟨j, h1, h2⟩
      · exact Or.inl h1
      · exact Or.inr ⟨j, by omega, h2⟩
theorem wi_nat {wh bl bm : Nat → Int32} {n : Nat} {r : Int32} (h : r = (wi_f wh bl bm n).1) (hr : ¬ r < 0) : ∃ j, j < n ∧ r = nI j := by
  rcases wi_in (wh := wh) (bl := bl) (bm := bm) n with h1 | ⟨j, h1, h2⟩
  · rw [h, h1] at hr; exact absurd (by decide) hr
  · exact ⟨j, h1, h.trans h2⟩
def fd_f (x : Int32) : Int32 := if 0 ≤ x ^^^ 2 then x / 2 else if (x / 2) * 2 = x then x / 2 else x / 2 - 1
def ps_ok (he : (Nat → Int32) → (Nat → Int32) → Prop) (wi : (Nat → Int32) → (Nat → Int32) → Int32) (n : Nat) : Nat → (Nat → Int32) → (Nat → Int32) → Prop
  | 0, _, _ => False
  | f + 1, bl, bm => he bl bm ∨ (¬ f = 0 ∧ ∃ j, j < n ∧ wi bl bm = nI j ∧ ps_ok he wi n f bl (upd bm j (fd_f (bl j + bm j))) ∧ ps_ok he wi n f (upd bl j (fd_f (bl j + bm j) + 1)) bm)
section PS
variable {he : (Nat → Int32) → (Nat → Int32) → Prop} {wi : (Nat → Int32) → (Nat → Int32) → Int32} {n f j : Nat} {bl bm : Nat → Int32} {r r1 x : Int32}
theorem ps_t (h : he bl bm) : tl_ok (ps_ok he wi n (f + 1) bl bm) 1 := tl_t (Or.inl h)
theorem ps_w (hn : n ≤ 4) (h : ¬ he bl bm) (hx : x = wi bl bm) (hr : x < 0) : tl_ok (ps_ok he wi n (f + 1) bl bm) 0 := tl_f fun q => by
  rcases q with q | ⟨-, j, h1, h2, -⟩
  · exact h q
  · rw [hx, h2] at hr; exact nI_pos (by omega) hr
theorem ps_d (h : ¬ he bl bm) (hf : f = 0) : tl_ok (ps_ok he wi n (f + 1) bl bm) 0 := tl_f fun q => by
  rcases q with q | ⟨q, -⟩
  · exact h q
  · exact q hf
theorem ps_j (hn : n ≤ 4) (hj : j < n) (hx : x = wi bl bm) (hxj : x = nI j) {j2 : Nat} (h1 : j2 < n) (h2 : wi bl bm = nI j2) : j2 = j := ((nI_eq (by omega) (by omega)).mp (h2.symm.trans (hx.symm.trans hxj)))
theorem ps_1 (hn : n ≤ 4) (h : ¬ he bl bm) (hj : j < n) (hx : x = wi bl bm) (hxj : x = nI j) (h1 : tl_ok (ps_ok he wi n f bl (upd bm j (fd_f (bl j + bm j)))) r) (hr : r = 0) : tl_ok (ps_ok he wi n (f + 1) bl bm) 0 := tl_f fun q => by
  rcases q with q | ⟨-, j2, g1, g2, g3, -⟩
  · exact h q
  · have := ps_j hn hj hx hxj g1 g2
    subst this
    exact tl_0 h1 hr g3
theorem ps_2 (hn : n ≤ 4) (h : ¬ he bl bm) (hf : ¬ f = 0) (hj : j < n) (hx : x = wi bl bm) (hxj : x = nI j) (h1 : tl_ok (ps_ok he wi n f bl (upd bm j (fd_f (bl j + bm j)))) r1) (hr : ¬ r1 = 0) (h2 : tl_ok (ps_ok he wi n f (upd bl j (fd_f (bl j + bm j) + 1)) bm) r) : tl_ok (ps_ok he wi n (f + 1) bl bm) r :=
  tl_of ⟨fun q => by
    rcases q with q | ⟨-, j2, g1, g2, -, g4⟩
    · exact absurd q h
    · have := ps_j hn hj hx hxj g1 g2
      subst this
      exact g4, fun q => Or.inr ⟨hf, j, hj, hx.symm.trans hxj, tl_1 h1 hr, q⟩⟩ h2
end PS
section GB
variable {vals co : Nat → Int32} {M : Nat → Nat → Int32} {bd : Nat → Int32} {k th zs c e : Nat} {s s2 z : gt_T} {R R1 : Nat → Int64} {num num1 : Nat → Int32}
theorem gc_n1 (hv : s2 = fl_g (gc_f vals co M bd k th zs) c s) (h : ¬ c &&& (127 ^^^ th) = 0) : s2 = fl_g (gc_f vals co M bd k th zs) (c + 1) s := gc_n hv (fun q => h q.2.1)
theorem gc_n2 (hv : s2 = fl_g (gc_f vals co M bd k th zs) c s) (h : ¬ pc_n c = pc_n zs + 1) : s2 = fl_g (gc_f vals co M bd k th zs) (c + 1) s := gc_n hv (fun q => h q.2.2)
theorem gs_n1 (h : ¬ sk_ok (sn_lo vals zs c 7) (sn_hi vals zs c 7)) (hn : num1 = nf_f vals zs c num) : (e, R, num1) = gs_f vals co M bd k zs c (e, R, num) := by
  refine gs_n (vals := vals) (zs := zs) (c := c) (e := e) ?_ hn
  exact fun q => h q.1
theorem gs_n2 (h : 462 ≤ e) (hn : num1 = nf_f vals zs c num) : (e, R, num1) = gs_f vals co M bd k zs c (e, R, num) := by
  refine gs_n (vals := vals) (zs := zs) (c := c) (e := e) ?_ hn
  exact fun q => Nat.not_lt.mpr h q.2
end GB
