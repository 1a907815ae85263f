/-! the reference's odometer over the whole amounts -/
def wk_ok (wh : Nat → Int32) (lv : Int32) (j : Nat) : Prop := lv = 0 ∧ ¬ wh j = 0
/-- the free amounts among those before j -/
def rr_ok (wh : Nat → Int32) (lv : Int32) (rsv : Nat → Int32) (re : Nat → Nat) (m j : Nat) : Prop :=
  m ≤ j ∧ (∀ c, c < m → rsv c = nI (re c) ∧ re c < j ∧ ¬ wk_ok wh lv (re c)) ∧ (∀ c, c + 1 < m → re c < re (c + 1)) ∧ ∀ i, i < j → ¬ wk_ok wh lv i → ∃ c, c < m ∧ re c = i
section RR
variable {wh rsv : Nat → Int32} {lv : Int32} {re : Nat → Nat} {m j : Nat}
theorem rr_0 : rr_ok wh lv rsv re 0 0 := ⟨Nat.le_refl _, fun _ h => absurd h (Nat.not_lt_zero _), fun _ h => absurd h (Nat.not_lt_zero _), fun _ h => absurd h (Nat.not_lt_zero _)⟩
theorem rr_n (h : rr_ok wh lv rsv re m j) (hw : wk_ok wh lv j) : rr_ok wh lv rsv re m (j + 1) :=
  ⟨by have := h.1; omega, fun c hc => ⟨(h.2.1 c hc).1, by have := (h.2.1 c hc).2.1; omega, (h.2.1 c hc).2.2⟩, h.2.2.1, fun i hi hn => h.2.2.2 i (by
    rcases Nat.lt_or_eq_of_le (Nat.le_of_lt_succ hi) with z | z
    · exact z
    · rw [z] at hn; exact absurd hw hn) hn⟩
theorem rr_y (h : rr_ok wh lv rsv re m j) (hw : ¬ wk_ok wh lv j) : rr_ok wh lv (upd rsv m (nI j)) (va_up re m j) (m + 1) (j + 1) := by
  refine ⟨by have := h.1; omega, fun c hc => ?_, fun c hc => ?_, fun i hi hn => ?_⟩
  · by_cases e : c = m
    · subst e; rw [pk_us, va_up_self]; exact ⟨rfl, by omega, hw⟩
    · rw [pk_un e, va_up_ne _ _ e]
      have := h.2.1 c (by omega)
      exact ⟨this.1, by omega, this.2.2⟩
  · by_cases e : c + 1 = m
    · rw [e, va_up_self, va_up_ne _ _ (by omega)]; exact (h.2.1 c (by omega)).2.1
    · rw [va_up_ne _ _ e, va_up_ne _ _ (by omega)]; exact h.2.2.1 c (by omega)
  · by_cases e : i = j
    · exact ⟨m, by omega, by rw [va_up_self]; exact e.symm⟩
    · obtain ⟨c, h1, h2⟩ := h.2.2.2 i (by omega) hn
      exact ⟨c, by omega, by rw [va_up_ne _ _ (by omega)]; exact h2⟩
end RR
def od_ok (wh : Nat → Int32) (lv : Int32) (wd : Nat → Nat) (n : Nat) (d : Nat → Nat) : Prop := ∀ j, j < n → (wk_ok wh lv j → d j ≤ wd j) ∧ (¬ wk_ok wh lv j → d j = 0)
def fx_ok (wh : Nat → Int32) (lv : Int32) (lo : Nat → Int32) (n : Nat) (fx : Nat → Int64) (d : Nat → Nat) : Prop := ∀ j, j < n → (wk_ok wh lv j → (fx j).toInt = (lo j).toInt + d j) ∧ (¬ wk_ok wh lv j → fx j = 0)
/-- one setting of the whole amounts, looked at -/
def sr_ok (lo hi wt bd co : Nat → Int32) (n k : Nat) (re : Nat → Nat) (rs : Nat) (fx : Nat → Int64) (s t : mt_T) : Prop := (rs = 0 → t = mt_f lo hi wt bd co n k fx 1 s) ∧ (1 ≤ rs → ∃ L, va_all rs (2 * rs + k) L ∧ t = cl_f lo hi wt bd co n k (mk_R lo hi wt bd fx re rs n) fx re rs L s)
def ch_ok (lo hi wt bd co : Nat → Int32) (n k : Nat) (re : Nat → Nat) (rs : Nat) : List (Nat → Int64) → mt_T → mt_T → Prop
  | [], s, t => t = s
  | f :: F, s, t => ∃ u, sr_ok lo hi wt bd co n k re rs f s u ∧ ch_ok lo hi wt bd co n k re rs F u t
theorem ch_app {lo hi wt bd co : Nat → Int32} {n k : Nat} {re : Nat → Nat} {rs : Nat} {f : Nat → Int64} {t v : mt_T} (h2 : sr_ok lo hi wt bd co n k re rs f t v) : ∀ (F : List (Nat → Int64)) (s : mt_T), ch_ok lo hi wt bd co n k re rs F s t → ch_ok lo hi wt bd co n k re rs (F ++ [f]) s v
  | [], s, h => ⟨v, by rw [show t = s from h] at h2; exact h2, rfl⟩
  | _ :: F, s, h => by
    obtain ⟨u, a, b⟩ := h
    exact ⟨u, a, ch_app h2 F u b⟩
def vd_el (wh : Nat → Int32) (lv : Int32) (lo : Nat → Int32) (wd : Nat → Nat) (n : Nat) (F : List (Nat → Int64)) : Prop := ∀ f ∈ F, ∃ e, od_ok wh lv wd n e ∧ fx_ok wh lv lo n f e
def vd_ok (wh : Nat → Int32) (lv : Int32) (lo : Nat → Int32) (wd : Nat → Nat) (n : Nat) (F : List (Nat → Int64)) (d : Nat → Nat) : Prop := vd_el wh lv lo wd n F ∧ ∀ e, od_ok wh lv wd n e → lx_lt n e d → ∃ f ∈ F, fx_ok wh lv lo n f e
def vd_all (wh : Nat → Int32) (lv : Int32) (lo : Nat → Int32) (wd : Nat → Nat) (n : Nat) (F : List (Nat → Int64)) : Prop := vd_el wh lv lo wd n F ∧ ∀ e, od_ok wh lv wd n e → ∃ f ∈ F, fx_ok wh lv lo n f e
/-- the next setting: j goes up by one, those behind it go back -/
def dn_f (j : Nat) (d : Nat → Nat) : Nat → Nat := fun i => if i < j then d i else if i = j then d j + 1 else 0
section VD
variable {wh : Nat → Int32} {lv : Int32} {lo : Nat → Int32} {wd d e : Nat → Nat} {n j t : Nat} {F : List (Nat → Int64)} {fx : Nat → Int64}
theorem fx_ag (h : fx_ok wh lv lo n fx d) (ha : ag_r n d e) : fx_ok wh lv lo n fx e := fun i hi => ⟨fun w => by rw [← ha i hi]; exact (h i hi).1 w, (h i hi).2⟩
theorem dn_od (hd : od_ok wh lv wd n d) (hj : j < n) (hw : wk_ok wh lv j) (hl : d j < wd j) : od_ok wh lv wd n (dn_f j d) := fun i hi => by
  unfold dn_f
  by_cases h1 : i < j
  · rw [if_pos h1]; exact hd i hi
  · rw [if_neg h1]
    by_cases h2 : i = j
    · subst h2; rw [if_pos rfl]; exact ⟨fun _ => by omega, fun z => absurd hw z⟩
    · rw [if_neg h2]; exact ⟨fun _ => Nat.zero_le _, fun _ => rfl⟩
theorem dx_max (he : od_ok wh lv wd n e) (hd : od_ok wh lv wd n d) (ha : ∀ i, i < t → e i = d i) (hm : ∀ i, t ≤ i → i < n → wk_ok wh lv i → d i = wd i) : lx_lt n e d ∨ ag_r n d e := by
  by_cases h : ag_r n d e
  · exact Or.inr h
  · left
    have hex : ∃ i, i < n ∧ ¬ d i = e i := Classical.byContradiction fun z => h (fun i hi => Classical.byContradiction fun y => z ⟨i, hi, y⟩)
    obtain ⟨i, ⟨h1, h2⟩, h3⟩ := pk_least (fun i => i < n ∧ ¬ d i = e i) hex
    have hi : t ≤ i := Nat.not_lt.mp fun z => h2 (ha i z).symm
    by_cases w : wk_ok wh lv i
    · have := hm i hi h1 w
      have := (he i h1).1 w
      exact ⟨i, h1, fun q hq => Classical.byContradiction fun y => h3 q hq ⟨by omega, fun z => y z.symm⟩, by omega⟩
    · exact absurd (((hd i h1).2 w).trans ((he i h1).2 w).symm) h2
theorem dn_lx (he : od_ok wh lv wd n e) (hd : od_ok wh lv wd n d) (hj : j < n) (hm : ∀ i, j + 1 ≤ i → i < n → wk_ok wh lv i → d i = wd i) (h : lx_lt n e (dn_f j d)) : lx_lt n e d ∨ ag_r n d e := by
  obtain ⟨i, h1, h2, h3⟩ := h
  have hb : ∀ q, q < i → q < j → e q = d q := fun q hq hl => by
    have := h2 q hq; unfold dn_f at this; rw [if_pos hl] at this; exact this
  unfold dn_f at h3
  by_cases h4 : i < j
  · rw [if_pos h4] at h3
    exact Or.inl ⟨i, h1, fun q hq => hb q hq (by omega), h3⟩
  · rw [if_neg h4] at h3
    by_cases h5 : i = j
    · rw [if_pos h5] at h3
      subst h5
      by_cases h6 : e i < d i
      · exact Or.inl ⟨i, h1, fun q hq => hb q hq hq, h6⟩
      · refine dx_max he hd (t := i + 1) (fun q hq => ?_) hm
        by_cases h7 : q = i
        · subst h7; omega
        · exact hb q (by omega) (by omega)
    · rw [if_neg h5] at h3; omega
theorem vd_in (h : vd_ok wh lv lo wd n F d) (hf : fx_ok wh lv lo n fx d) (he : od_ok wh lv wd n e) (h2 : lx_lt n e d ∨ ag_r n d e) : ∃ f ∈ F ++ [fx], fx_ok wh lv lo n f e := by
  rcases h2 with h2 | h2
  · obtain ⟨x, a, b⟩ := h.2 e he h2
    exact ⟨x, List.mem_append_left _ a, b⟩
  · exact ⟨fx, List.mem_append_right _ (List.mem_singleton.mpr rfl), fx_ag hf h2⟩
theorem vd_e2 (h : vd_ok wh lv lo wd n F d) (hd : od_ok wh lv wd n d) (hf : fx_ok wh lv lo n fx d) : vd_el wh lv lo wd n (F ++ [fx]) := fun x hx => (List.mem_append.mp hx).elim (h.1 x) (fun z => by rw [List.mem_singleton.mp z]; exact ⟨d, hd, hf⟩)
theorem vd_next (h : vd_ok wh lv lo wd n F d) (hd : od_ok wh lv wd n d) (hf : fx_ok wh lv lo n fx d) (hj : j < n) (hm : ∀ i, j + 1 ≤ i → i < n → wk_ok wh lv i → d i = wd i) : vd_ok wh lv lo wd n (F ++ [fx]) (dn_f j d) := ⟨vd_e2 h hd hf, fun _ he hl => vd_in h hf he (dn_lx he hd hj hm hl)⟩
theorem vd_last (h : vd_ok wh lv lo wd n F d) (hd : od_ok wh lv wd n d) (hf : fx_ok wh lv lo n fx d) (hm : ∀ i, 0 ≤ i → i < n → wk_ok wh lv i → d i = wd i) : vd_all wh lv lo wd n (F ++ [fx]) := ⟨vd_e2 h hd hf, fun _ he => vd_in h hf he (dx_max he hd (t := 0) (fun _ z => absurd z (Nat.not_lt_zero _)) hm)⟩
theorem vd_0 : od_ok wh lv wd n (fun _ => 0) ∧ vd_ok wh lv lo wd n [] (fun _ => 0) := ⟨fun _ _ => ⟨fun _ => Nat.zero_le _, fun _ => rfl⟩, ⟨fun x hx => absurd hx List.not_mem_nil, fun _ _ hl => by
  obtain ⟨i, -, -, h3⟩ := hl
  exact absurd h3 (Nat.not_lt_zero _)⟩⟩
end VD
/-- a setting as a number: it only goes up -/
def dm_f (n : Nat) (d : Nat → Nat) : Nat := (if 0 < n then d 0 else 0) * 68921 + (if 1 < n then d 1 else 0) * 1681 + (if 2 < n then d 2 else 0) * 41 + (if 3 < n then d 3 else 0)
theorem dm_lt {wh : Nat → Int32} {lv : Int32} {wd d : Nat → Nat} {n : Nat} (hw : ∀ j, j < n → wd j ≤ 40) (h : od_ok wh lv wd n d) : ∀ j, j < n → d j ≤ 40 := fun j hj => by
  by_cases w : wk_ok wh lv j
  · have := (h j hj).1 w; have := hw j hj; omega
  · rw [(h j hj).2 w]; omega
theorem dm_b {d : Nat → Nat} {n : Nat} (h : ∀ j, j < n → d j ≤ 40) : dm_f n d ≤ 2825760 := by
  have h0 : (if 0 < n then d 0 else 0) ≤ 40 := by split; exact h 0 (by assumption); omega
  have h1 : (if 1 < n then d 1 else 0) ≤ 40 := by split; exact h 1 (by assumption); omega
  have h2 : (if 2 < n then d 2 else 0) ≤ 40 := by split; exact h 2 (by assumption); omega
  have h3 : (if 3 < n then d 3 else 0) ≤ 40 := by split; exact h 3 (by assumption); omega
  unfold dm_f; omega
theorem dm_up {d : Nat → Nat} {n j : Nat} (hn : n ≤ 4) (hj : j < n) (h : ∀ j, j < n → d j ≤ 40) : dm_f n d < dm_f n (dn_f j d) := by
  unfold dm_f dn_f
  rcases (show j = 0 ∨ j = 1 ∨ j = 2 ∨ j = 3 by omega) with rfl | rfl | rfl | rfl
  · rcases (show n = 1 ∨ n = 2 ∨ n = 3 ∨ n = 4 by omega) with rfl | rfl | rfl | rfl
    · have := h 0 (by decide); simp <;> omega
    · have := h 0 (by decide); have := h 1 (by decide); simp <;> omega
    · have := h 0 (by decide); have := h 1 (by decide); have := h 2 (by decide); simp <;> omega
    · have := h 0 (by decide); have := h 1 (by decide); have := h 2 (by decide); have := h 3 (by decide); simp <;> omega
  · rcases (show n = 2 ∨ n = 3 ∨ n = 4 by omega) with rfl | rfl | rfl
    · have := h 1 (by decide); simp <;> omega
    · have := h 1 (by decide); have := h 2 (by decide); simp <;> omega
    · have := h 1 (by decide); have := h 2 (by decide); have := h 3 (by decide); simp <;> omega
  · rcases (show n = 3 ∨ n = 4 by omega) with rfl | rfl
    · have := h 2 (by decide); simp <;> omega
    · have := h 2 (by decide); have := h 3 (by decide); simp <;> omega
  · have e : n = 4 := by omega
    subst e
    have := h 3 (by decide); simp <;> omega
