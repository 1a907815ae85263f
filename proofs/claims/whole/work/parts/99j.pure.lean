/-! what take looks at; the picks in their order -/
section CG
variable {lo hi wt bd co w : Nat → Int32} {n k : Nat} {x y g bst : Nat → Int64} {be bb : Int64} {b0 s0 : Int32} {s : mt_T}
theorem mw_cg (h : ∀ j, j < n → x j = y j) : ∀ m, m ≤ n → mw_sum w x m = mw_sum w y m
  | 0, _ => rfl
  | m + 1, hm => by
    show mw_sum w x m + _ * x m = mw_sum w y m + _ * y m
    rw [mw_cg h m (by omega), h m (by omega)]
theorem mp_cg (h : ∀ j, j < n → x j = y j) : mp_ok lo hi wt bd x be n k ↔ mp_ok lo hi wt bd y be n k := by
  unfold mp_ok mp_b mp_l
  constructor
  · rintro ⟨a, b⟩
    exact ⟨fun j hj => by rw [← h j hj]; exact a j hj, fun i hi => by rw [← mw_cg h n (Nat.le_refl _)]; exact b i hi⟩
  · rintro ⟨a, b⟩
    exact ⟨fun j hj => by rw [h j hj]; exact a j hj, fun i hi => by rw [mw_cg h n (Nat.le_refl _)]; exact b i hi⟩
theorem bs_cg (h : ∀ j, j < n → x j = y j) : ∀ m, m ≤ n → bs_f x bst bb be b0 s0 m = bs_f y bst bb be b0 s0 m
  | 0, _ => rfl
  | m + 1, hm => by
    show (if (bs_f x bst bb be b0 s0 m).2 = 0 then bs_f x bst bb be b0 s0 m else (lt_f (x m * bb) (bst m * be), eq_f (x m * bb) (bst m * be))) = (if (bs_f y bst bb be b0 s0 m).2 = 0 then bs_f y bst bb be b0 s0 m else (lt_f (y m * bb) (bst m * be), eq_f (y m * bb) (bst m * be)))
    rw [bs_cg h m (by omega), h m (by omega)]
theorem ml_cg (h : ∀ j, j < n → x j = y j) : ml_f x g n = ml_f y g n := by
  funext i; unfold ml_f
  by_cases hi : i < n
  · rw [if_pos hi, if_pos hi]; exact h i hi
  · rw [if_neg hi, if_neg hi]
theorem mt_cg (h : ∀ j, j < n → x j = y j) : mt_f lo hi wt bd co n k x be s = mt_f lo hi wt bd co n k y be s := by
  have e1 : mp_ok lo hi wt bd x be n k = mp_ok lo hi wt bd y be n k := propext (mp_cg h)
  have e2 : mw_sum co x n = mw_sum co y n := mw_cg h n (Nat.le_refl _)
  unfold mt_f tb_f
  rw [e1, e2, bs_cg h n (Nat.le_refl _), ml_cg h]
end CG
theorem ct_cg {RW : Nat → Int64} {pk re : Nat → Nat} {rs n : Nat} {sl : Int64} {ta tb : Nat → Int64} (h : ∀ j, j < n → ta j = tb j) : ∀ c j, j < n → ct_f RW pk re rs sl ta c j = ct_f RW pk re rs sl tb c j
  | 0, j, hj => h j hj
  | c + 1, j, hj => by
    show vp_updL _ _ _ j = vp_updL _ _ _ j
    by_cases e : j = re c
    · rw [e, pk_uLs, pk_uLs]
    · rw [pk_uLn e, pk_uLn e]; exact ct_cg h c j hj
/-- a corner that the reference tries -/
def cq_b (RW : Nat → Int64) (rs : Nat) (p : Nat → Nat) : Int64 := dd_f RW p (-1) rs * sl_f (dd_f RW p (-1) rs)
noncomputable def cn_f (lo hi wt bd co : Nat → Int32) (n k : Nat) (RW fx : Nat → Int64) (re : Nat → Nat) (rs : Nat) (p : Nat → Nat) (s : mt_T) : mt_T :=
  ci_f (dd_f RW p (-1) rs = 0) s (mt_f lo hi wt bd co n k (ct_f RW p re rs (sl_f (dd_f RW p (-1) rs)) (fun j => fx j * cq_b RW rs p) rs) (cq_b RW rs p) s)
theorem cn_eq {lo hi wt bd co : Nat → Int32} {n k : Nat} {RW fx tr : Nat → Int64} {re : Nat → Nat} {rs : Nat} {p : Nat → Nat} {s s1 : mt_T}
    (h : (dd_f RW p (-1) rs = 0 → s1 = s) ∧ (¬ dd_f RW p (-1) rs = 0 → s1 = mt_f lo hi wt bd co n k (ct_f RW p re rs (sl_f (dd_f RW p (-1) rs)) (ct_a fx tr (dd_f RW p (-1) rs * sl_f (dd_f RW p (-1) rs)) n) rs) (dd_f RW p (-1) rs * sl_f (dd_f RW p (-1) rs)) s)) : s1 = cn_f lo hi wt bd co n k RW fx re rs p s := by
  unfold cn_f
  by_cases h0 : dd_f RW p (-1) rs = 0
  · rw [ci_t h0]; exact h.1 h0
  · rw [ci_n h0, h.2 h0]
    unfold cq_b
    refine mt_cg (fun j hj => ct_cg (n := n) (fun i hi => ?_) rs j hj)
    unfold ct_a ml_f; rw [if_pos hi]
def ic_ok (rs rc : Nat) (p : Nat → Nat) : Prop := (∀ i, i + 1 < rs → p i < p (i + 1)) ∧ ∀ i, i < rs → p i < rc
def ag_r (rs : Nat) (p q : Nat → Nat) : Prop := ∀ i, i < rs → p i = q i
def lx_lt (rs : Nat) (q p : Nat → Nat) : Prop := ∃ i, i < rs ∧ (∀ j, j < i → q j = p j) ∧ q i < p i
theorem ic_add {rs rc : Nat} {p : Nat → Nat} (h : ic_ok rs rc p) (i : Nat) : ∀ d, i + d < rs → p i + d ≤ p (i + d)
  | 0, _ => Nat.le_refl _
  | d + 1, hd => by
    have h1 := ic_add h i d (by omega)
    have h2 := h.1 (i + d) (by omega)
    rw [show i + (d + 1) = i + d + 1 by omega]
    omega
theorem ic_up {rs rc : Nat} {p : Nat → Nat} (h : ic_ok rs rc p) {i : Nat} (hi : i < rs) : p i + (rs - i) ≤ rc := by
  have h1 := ic_add h i (rs - 1 - i) (by omega)
  have h2 := h.2 (i + (rs - 1 - i)) (by omega)
  omega
def nx_f (t : Nat) (p : Nat → Nat) : Nat → Nat := fun i => if i < t - 1 then p i else p (t - 1) + 1 + (i - (t - 1))
theorem nx_ic {rs rc t : Nat} {p : Nat → Nat} (h : ic_ok rs rc p) (ht : 1 ≤ t ∧ t ≤ rs) (hn : ¬ p (t - 1) = rc - rs + (t - 1)) : ic_ok rs rc (nx_f t p) := by
  have h0 := ic_up h (i := t - 1) (by omega)
  have h9 := ic_add h 0 (t - 1) (by omega)
  rw [Nat.zero_add] at h9
  refine ⟨fun i hi => ?_, fun i hi => ?_⟩
  · unfold nx_f
    by_cases h1 : i + 1 < t - 1
    · rw [if_pos (by omega), if_pos h1]; exact h.1 i hi
    · by_cases h2 : i < t - 1
      · rw [if_pos h2, if_neg h1]
        have := h.1 i hi
        rw [show i + 1 = t - 1 by omega] at this
        omega
      · rw [if_neg h2, if_neg h1]; omega
  · unfold nx_f
    by_cases h2 : i < t - 1
    · rw [if_pos h2]; exact h.2 i hi
    · rw [if_neg h2]; omega
theorem lx_max {rs rc : Nat} {p q : Nat → Nat} (hq : ic_ok rs rc q) {t : Nat} (ha : ∀ j, j < t → q j = p j) (hm : ∀ i, t ≤ i → i < rs → p i = rc - rs + i) : lx_lt rs q p ∨ ag_r rs p q := by
  by_cases h : ag_r rs p q
  · exact Or.inr h
  · left
    have hex : ∃ i, i < rs ∧ ¬ p i = q i := Classical.byContradiction fun z => h (fun i hi => Classical.byContradiction fun y => z ⟨i, hi, y⟩)
    obtain ⟨i, ⟨h1, h2⟩, h3⟩ := pk_least (fun i => i < rs ∧ ¬ p i = q i) hex
    have hi : t ≤ i := Nat.not_lt.mp fun z => h2 (ha i z).symm
    have hu := ic_up hq h1
    have hp := hm i hi h1
    exact ⟨i, h1, fun j hj => Classical.byContradiction fun y => h3 j hj ⟨by omega, fun e => y e.symm⟩, by omega⟩
theorem nx_lx {rs rc t : Nat} {p q : Nat → Nat} (hq : ic_ok rs rc q) (ht : 1 ≤ t ∧ t ≤ rs) (hm : ∀ i, t ≤ i → i < rs → p i = rc - rs + i) (h : lx_lt rs q (nx_f t p)) : lx_lt rs q p ∨ ag_r rs p q := by
  obtain ⟨i, h1, h2, h3⟩ := h
  unfold nx_f at h3
  have hb : ∀ j, j < i → j < t - 1 → q j = p j := fun j hj hl => by
    have := h2 j hj; unfold nx_f at this; rw [if_pos hl] at this; exact this
  by_cases h4 : i < t - 1
  · rw [if_pos h4] at h3
    exact Or.inl ⟨i, h1, fun j hj => hb j hj (by omega), h3⟩
  · rw [if_neg h4] at h3
    by_cases h5 : i = t - 1
    · subst h5
      by_cases h6 : q (t - 1) < p (t - 1)
      · exact Or.inl ⟨t - 1, h1, fun j hj => hb j hj hj, h6⟩
      · refine lx_max hq (t := t) (fun j hj => ?_) hm
        by_cases h7 : j = t - 1
        · subst h7; omega
        · exact hb j (by omega) (by omega)
    · have h7 := h2 (t - 1) (by omega)
      unfold nx_f at h7
      rw [if_neg (by omega)] at h7
      have h8 := ic_add hq (t - 1) (i - (t - 1)) (by omega)
      rw [show t - 1 + (i - (t - 1)) = i by omega] at h8
      omega
/-- the picks seen: every increasing one before p is among them -/
def vs_ok (rs rc : Nat) (L : List (Nat → Nat)) (p : Nat → Nat) : Prop := (∀ x ∈ L, ic_ok rs rc x) ∧ ∀ q, ic_ok rs rc q → lx_lt rs q p → ∃ x ∈ L, ag_r rs x q
def va_all (rs rc : Nat) (L : List (Nat → Nat)) : Prop := (∀ x ∈ L, ic_ok rs rc x) ∧ ∀ q, ic_ok rs rc q → ∃ x ∈ L, ag_r rs x q
theorem vs_in {rs rc : Nat} {L : List (Nat → Nat)} {p q : Nat → Nat} (h : vs_ok rs rc L p) (hq : ic_ok rs rc q) (h2 : lx_lt rs q p ∨ ag_r rs p q) : ∃ x ∈ L ++ [p], ag_r rs x q := by
  rcases h2 with h2 | h2
  · obtain ⟨x, a, b⟩ := h.2 q hq h2
    exact ⟨x, List.mem_append_left _ a, b⟩
  · exact ⟨p, List.mem_append_right _ (List.mem_singleton.mpr rfl), h2⟩
theorem vs_el {rs rc : Nat} {L : List (Nat → Nat)} {p : Nat → Nat} (h : vs_ok rs rc L p) (hp : ic_ok rs rc p) : ∀ x ∈ L ++ [p], ic_ok rs rc x := fun x hx => (List.mem_append.mp hx).elim (h.1 x) (fun z => by rw [List.mem_singleton.mp z]; exact hp)
theorem vs_next {rs rc t : Nat} {L : List (Nat → Nat)} {p : Nat → Nat} (h : vs_ok rs rc L p) (hp : ic_ok rs rc p) (ht : 1 ≤ t ∧ t ≤ rs) (hm : ∀ i, t ≤ i → i < rs → p i = rc - rs + i) : vs_ok rs rc (L ++ [p]) (nx_f t p) :=
  ⟨vs_el h hp, fun _ hq hl => vs_in h hq (nx_lx hq ht hm hl)⟩
theorem vs_last {rs rc : Nat} {L : List (Nat → Nat)} {p : Nat → Nat} (h : vs_ok rs rc L p) (hp : ic_ok rs rc p) (hm : ∀ i, 0 ≤ i → i < rs → p i = rc - rs + i) : va_all rs rc (L ++ [p]) :=
  ⟨vs_el h hp, fun _ hq => vs_in h hq (lx_max hq (t := 0) (fun j hj => absurd hj (Nat.not_lt_zero _)) hm)⟩
theorem vs_0 {rs rc : Nat} (h : rs ≤ rc) : ic_ok rs rc (fun i => i) ∧ vs_ok rs rc [] (fun i => i) := by
  refine ⟨⟨fun i _ => Nat.lt_succ_self i, fun i hi => Nat.lt_of_lt_of_le hi h⟩, ⟨fun x hx => absurd hx List.not_mem_nil, fun q hq hl => ?_⟩⟩
  obtain ⟨i, h1, h2, h3⟩ := hl
  have h4 := ic_add hq 0 i (by omega)
  rw [Nat.zero_add] at h4
  have h5 : q i < i := h3
  omega
/-- a pick as a number -/
def pn_f (rs : Nat) (p : Nat → Nat) : Nat := (if 0 < rs then p 0 else 0) * 4096 + (if 1 < rs then p 1 else 0) * 256 + (if 2 < rs then p 2 else 0) * 16 + (if 3 < rs then p 3 else 0)
theorem pn_lt {rs rc : Nat} {p : Nat → Nat} (hrc : rc ≤ 14) (h : ic_ok rs rc p) : pn_f rs p < 65536 := by
  have h0 : (if 0 < rs then p 0 else 0) ≤ 13 := by split; have := h.2 0 (by assumption); omega; omega
  have h1 : (if 1 < rs then p 1 else 0) ≤ 13 := by split; have := h.2 1 (by assumption); omega; omega
  have h2 : (if 2 < rs then p 2 else 0) ≤ 13 := by split; have := h.2 2 (by assumption); omega; omega
  have h3 : (if 3 < rs then p 3 else 0) ≤ 13 := by split; have := h.2 3 (by assumption); omega; omega
  unfold pn_f; omega
theorem pn_nx {rs rc t : Nat} {p : Nat → Nat} (hrs : rs ≤ 4) (hrc : rc ≤ 14) (h : ic_ok rs rc p) (ht : 1 ≤ t ∧ t ≤ rs) : pn_f rs p < pn_f rs (nx_f t p) := by
  have b0 : ∀ i, i < rs → p i ≤ 13 := fun i hi => by have := h.2 i hi; omega
  unfold pn_f nx_f
  rcases (show t = 1 ∨ t = 2 ∨ t = 3 ∨ t = 4 by omega) with rfl | rfl | rfl | rfl
  · rcases (show rs = 1 ∨ rs = 2 ∨ rs = 3 ∨ rs = 4 by omega) with rfl | rfl | rfl | rfl
    · have := b0 0 (by decide); simp <;> omega
    · have := b0 0 (by decide); have := b0 1 (by decide); simp <;> omega
    · have := b0 0 (by decide); have := b0 1 (by decide); have := b0 2 (by decide); simp <;> omega
    · have := b0 0 (by decide); have := b0 1 (by decide); have := b0 2 (by decide); have := b0 3 (by decide); simp <;> omega
  · rcases (show rs = 2 ∨ rs = 3 ∨ rs = 4 by omega) with rfl | rfl | rfl
    · have := b0 1 (by decide); simp <;> omega
    · have := b0 1 (by decide); have := b0 2 (by decide); simp <;> omega
    · have := b0 1 (by decide); have := b0 2 (by decide); have := b0 3 (by decide); simp <;> omega
  · rcases (show rs = 3 ∨ rs = 4 by omega) with rfl | rfl
    · have := b0 2 (by decide); simp <;> omega
    · have := b0 2 (by decide); have := b0 3 (by decide); simp <;> omega
  · have e : rs = 4 := by omega
    subst e
    have := b0 3 (by decide)
    simp
/-- all corners of the rows, in turn -/
noncomputable def cl_f (lo hi wt bd co : Nat → Int32) (n k : Nat) (RW fx : Nat → Int64) (re : Nat → Nat) (rs : Nat) : List (Nat → Nat) → mt_T → mt_T
  | [], s => s
  | p :: L, s => cl_f lo hi wt bd co n k RW fx re rs L (cn_f lo hi wt bd co n k RW fx re rs p s)
theorem cl_app {lo hi wt bd co : Nat → Int32} {n k : Nat} {RW fx : Nat → Int64} {re : Nat → Nat} {rs : Nat} {p : Nat → Nat} : ∀ (L : List (Nat → Nat)) (s : mt_T), cl_f lo hi wt bd co n k RW fx re rs (L ++ [p]) s = cn_f lo hi wt bd co n k RW fx re rs p (cl_f lo hi wt bd co n k RW fx re rs L s)
  | [], _ => rfl
  | _ :: L, s => cl_app L _
theorem tm_nat {t : Nat} (h : 1 ≤ t) : nI t - 1 = nI (t - 1) := pk_sub (a := t) (b := 1) h
theorem tm_neg {t : Nat} (ht : t ≤ 4) (h : nI t - 1 < 0) : t = 0 := by
  rcases (show t = 0 ∨ t = 1 ∨ t = 2 ∨ t = 3 ∨ t = 4 by omega) with rfl | rfl | rfl | rfl | rfl
  · rfl
  all_goals exact absurd h (by decide)
theorem tm_pos {t : Nat} (h : ¬ nI t - 1 < 0) : 1 ≤ t := by
  rcases (show t = 0 ∨ 1 ≤ t by omega) with rfl | h1
  · exact absurd (by decide) h
  · exact h1
theorem tm_dec {t : Nat} (h : 1 ≤ t) : nI t - 1 + (-1) = nI (t - 1) - 1 := by
  rw [tm_nat h, Int32.sub_eq_add_neg]
def cm_f (g : Int32) (rs : Nat) (p : Nat → Nat) : Nat := if g = 0 then 0 else 65536 - pn_f rs p
def pj_f (g : Int32) (t : Nat) (p : Nat → Nat) : Nat → Nat := if g = 0 then p else nx_f t p
/-- where the next pick is being written -/
def nz_ok (rs rc t i : Nat) (p : Nat → Nat) (f0 f1 : Nat → Int32) (g x : Int32) : Prop :=
  (g = 0 ∧ x = -1 ∧ t = 0 ∧ f1 = f0) ∨ (g = 1 ∧ x = nI i ∧ ((1 ≤ t ∧ t ≤ rs) ∧ ¬ p (t - 1) = rc - rs + (t - 1)) ∧ (t - 1 ≤ i ∧ i ≤ rs) ∧ ∀ r, r < rs → f1 r = if t - 1 ≤ r ∧ r < i then nI (nx_f t p r) else f0 r)
section NZ
variable {rs rc t i : Nat} {p : Nat → Nat} {f0 f1 : Nat → Int32} {g x : Int32} {L : List (Nat → Nat)}
theorem nz_a (ht : t = 0) : nz_ok rs rc t (t - 1) p f0 f0 0 (nI t - 1) := Or.inl ⟨rfl, by rw [ht]; decide, ht, rfl⟩
theorem nz_b (ht : 1 ≤ t) (hr : t ≤ rs) (hn : ¬ p (t - 1) = rc - rs + (t - 1)) : nz_ok rs rc t (t - 1) p f0 f0 1 (nI t - 1) :=
  Or.inr ⟨rfl, tm_nat ht, ⟨⟨ht, hr⟩, hn⟩, ⟨Nat.le_refl _, by omega⟩, fun r _ => by rw [if_neg (by omega)]⟩
theorem nz_out (hrs : rs ≤ 4) (hrc : rc ≤ 14) (hz : nz_ok rs rc t i p f0 f1 g x) (hend : g = 0 ∨ nI rs ≤ x) (h0 : ∀ r, r < rs → f0 r = nI (p r) ∧ p r < rc) (hp : ic_ok rs rc p) (hm : ∀ j, t ≤ j → j < rs → p j = rc - rs + j) (hv : vs_ok rs rc L p) :
    ((∀ r, r < rs → f1 r = nI (pj_f g t p r) ∧ pj_f g t p r < rc) ∧ ic_ok rs rc (pj_f g t p)) ∧ ((g = 0 ∧ va_all rs rc (L ++ [p])) ∨ (g = 1 ∧ vs_ok rs rc (L ++ [p]) (pj_f g t p))) ∧ cm_f g rs (pj_f g t p) < cm_f 1 rs p := by
  have hlt := pn_lt hrc hp
  have c1 : cm_f 1 rs p = 65536 - pn_f rs p := if_neg (by decide)
  rcases hz with ⟨rfl, hx, ht, hf⟩ | ⟨rfl, hx, ⟨ht, hn⟩, hi, hf⟩
  · have e : pj_f 0 t p = p := if_pos rfl
    rw [e]
    refine ⟨⟨fun r hr => by rw [hf]; exact h0 r hr, hp⟩, Or.inl ⟨rfl, vs_last hv hp (fun j _ hj => hm j (by omega) hj)⟩, ?_⟩
    rw [c1, show cm_f 0 rs p = 0 from if_pos rfl]; omega
  · have e : pj_f 1 t p = nx_f t p := if_neg (by decide)
    have hir : i = rs := by
      rcases hend with h | h
      · exact absurd h (by decide)
      · rw [hx] at h
        have := (nI_leI (by omega) (by omega)).mp h
        omega
    rw [e]
    have hic := nx_ic hp ht hn
    refine ⟨⟨fun r hr => ⟨?_, hic.2 r hr⟩, hic⟩, Or.inr ⟨rfl, vs_next hv hp ht hm⟩, ?_⟩
    · rw [hf r hr]
      by_cases h : t - 1 ≤ r
      · rw [if_pos ⟨h, by omega⟩]
      · rw [if_neg (fun q => h q.1), (h0 r hr).1]; unfold nx_f; rw [if_pos (by omega)]
    · rw [c1, show cm_f 1 rs (nx_f t p) = 65536 - pn_f rs (nx_f t p) from if_neg (by decide)]
      have := pn_nx hrs hrc hp ht
      omega
theorem nz_s (hz : nz_ok rs rc t i p f0 f1 g x) (hg : ¬ g = 0) (hi : i < rs) : nz_ok rs rc t (i + 1) p f0 (upd f1 i (nI (nx_f t p i))) g (nI (i + 1)) := by
  rcases hz with ⟨h, -⟩ | ⟨h1, hx, h2, h3, h4⟩
  · exact absurd h hg
  · refine Or.inr ⟨h1, rfl, h2, ⟨by omega, by omega⟩, fun r hr => ?_⟩
    by_cases e : r = i
    · subst e; rw [pk_us, if_pos ⟨h3.1, by omega⟩]
    · rw [pk_un e, h4 r hr]
      by_cases h5 : t - 1 ≤ r ∧ r < i
      · rw [if_pos h5, if_pos (by omega)]
      · rw [if_neg h5, if_neg (by omega)]
theorem nz_g (hz : nz_ok rs rc t i p f0 f1 g x) (hg : ¬ g = 0) : x = nI i ∧ ((1 ≤ t ∧ t ≤ rs) ∧ ¬ p (t - 1) = rc - rs + (t - 1)) ∧ (t - 1 ≤ i ∧ i ≤ rs) ∧ ∀ r, r < rs → f1 r = if t - 1 ≤ r ∧ r < i then nI (nx_f t p r) else f0 r := by
  rcases hz with ⟨h, -⟩ | ⟨-, h⟩
  · exact absurd h hg
  · exact h
theorem nz_1 (h4 : ∀ r, r < rs → f1 r = if t - 1 ≤ r ∧ r < i then nI (nx_f t p r) else f0 r) (h0 : ∀ r, r < rs → f0 r = nI (p r) ∧ p r < rc) (hi : i < rs) (he : i = t - 1) : f1 i + 1 = nI (nx_f t p i) := by
  rw [h4 i hi, if_neg (by omega), (h0 i hi).1, nI_1]
  unfold nx_f; rw [if_neg (by omega), he, Nat.sub_self, Nat.add_zero]
theorem nz_2 (h4 : ∀ r, r < rs → f1 r = if t - 1 ≤ r ∧ r < i then nI (nx_f t p r) else f0 r) (hi : i < rs) (he : t - 1 ≤ i) (hne : ¬ i = t - 1) : f1 (i - 1) + 1 = nI (nx_f t p i) := by
  rw [h4 (i - 1) (by omega), if_pos (by omega), nI_1]
  unfold nx_f; rw [if_neg (by omega), if_neg (by omega)]; congr 1; omega
end NZ
