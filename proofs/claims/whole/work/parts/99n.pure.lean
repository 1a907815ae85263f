def sv_f (lv : Int32) : Int32 := if lv = 0 then 1 else 2
theorem rr_y1 {wh rsv : Nat → Int32} {lv : Int32} {re : Nat → Nat} {m j : Nat} (h : rr_ok wh lv rsv re m j) (hw : ¬ lv = 0) : rr_ok wh lv (upd rsv m (nI j)) (va_up re m j) (m + 1) (j + 1) := rr_y h (fun q => hw q.1)
theorem rr_y2 {wh rsv : Nat → Int32} {lv : Int32} {re : Nat → Nat} {m j : Nat} (h : rr_ok wh lv rsv re m j) (hw : wh j = 0) : rr_ok wh lv (upd rsv m (nI j)) (va_up re m j) (m + 1) (j + 1) := rr_y h (fun q => q.2 hw)
def fz_f (wh : Nat → Int32) (lv : Int32) (lo : Nat → Int32) (n q : Nat) : Int64 := if q < n ∧ lv = 0 ∧ ¬ wh q = 0 then (lo q).toInt64 else 0
section FZ
variable {wh lo hi : Nat → Int32} {lv : Int32} {n q i : Nat} {fx : Nat → Int64}
theorem fz_a (h : ¬ q < n) : 0 = fz_f wh lv lo n q := (if_neg (fun z => h z.1)).symm
theorem fz_b (h : ¬ lv = 0) : 0 = fz_f wh lv lo n q := (if_neg (fun z => h z.2.1)).symm
theorem fz_c (h : wh q = 0) : 0 = fz_f wh lv lo n q := (if_neg (fun z => z.2.2 h)).symm
theorem fz_d (h : q < n) (h1 : lv = 0) (h2 : ¬ wh q = 0) : (lo q).toInt64 = fz_f wh lv lo n q := (if_pos ⟨h, h1, h2⟩).symm
def fp_ok (fx : Nat → Int64) (f : Nat → Int64) (i : Nat) : Prop := ∀ q, q < i → fx q = f q
theorem fp_0 {f : Nat → Int64} : fp_ok fx f 0 := fun _ h => absurd h (Nat.not_lt_zero _)
theorem fp_s {f : Nat → Int64} (h : fp_ok fx f i) : fp_ok (vp_updL fx i (f i)) f (i + 1) := fun q hq => by
  by_cases e : q = i
  · subst e; exact pk_uLs
  · rw [pk_uLn e]; exact h q (by omega)
theorem fz_fx (hn : n ≤ 4) (h : fp_ok fx (fz_f wh lv lo n) 4) : fx_ok wh lv lo n fx (fun _ => 0) := fun j hj => by
  rw [h j (by omega)]
  refine ⟨fun w => ?_, fun w => ?_⟩
  · rw [← fz_d hj w.1 w.2, Int32.toInt_toInt64]; simp
  · by_cases h0 : lv = 0
    · by_cases h1 : wh j = 0
      · exact (fz_c h1).symm
      · exact absurd ⟨h0, h1⟩ w
    · exact (fz_b h0).symm
end FZ
def fb_ok (s : mt_T) : Prop := s.1 = 0 ∨ s.1 = 1
theorem mt_b {lo hi wt bd co : Nat → Int32} {n k : Nat} {x : Nat → Int64} {be : Int64} {s : mt_T} (h : fb_ok s) : fb_ok (mt_f lo hi wt bd co n k x be s) := by
  unfold mt_f
  by_cases h1 : mp_ok lo hi wt bd x be n k
  · rw [ci_t h1]
    by_cases h2 : ¬ tb_f x be (mw_sum co x n) n s = 0
    · rw [ci_t h2]; exact Or.inr rfl
    · rw [ci_n h2]; exact h
  · rw [ci_n h1]; exact h
theorem cl_b {lo hi wt bd co : Nat → Int32} {n k : Nat} {RW fx : Nat → Int64} {re : Nat → Nat} {rs : Nat} : ∀ (L : List (Nat → Nat)) (s : mt_T), fb_ok s → fb_ok (cl_f lo hi wt bd co n k RW fx re rs L s)
  | [], _, h => h
  | p :: L, s, h => cl_b L _ (by
    unfold cn_f
    by_cases h0 : dd_f RW p (-1) rs = 0
    · rw [ci_t h0]; exact h
    · rw [ci_n h0]; exact mt_b h)
theorem sr_b {lo hi wt bd co : Nat → Int32} {n k : Nat} {re : Nat → Nat} {rs : Nat} {fx : Nat → Int64} {s t : mt_T} (h : sr_ok lo hi wt bd co n k re rs fx s t) (hs : fb_ok s) : fb_ok t := by
  rcases (show rs = 0 ∨ 1 ≤ rs by omega) with h0 | h0
  · rw [h.1 h0]; exact mt_b hs
  · obtain ⟨L, -, e⟩ := h.2 h0
    rw [e]; exact cl_b L s hs
theorem fb_nar {s : mt_T} (h : fb_ok s) : narrow .boolean (.int s.1) = .int s.1 := by
  rcases h with h | h <;> rw [h] <;> rfl
def rd_f (t : Nat) (d : Nat → Nat) : Nat → Nat := fun i => if i < t then d i else 0
def wb_ok (lo hi : Nat → Int32) (wd : Nat → Nat) (n : Nat) : Prop := ∀ j, j < n → (hi j).toInt = (lo j).toInt + wd j ∧ wd j ≤ 40 ∧ -1000 ≤ (lo j).toInt ∧ (lo j).toInt ≤ 1000
def oz_ok (wh : Nat → Int32) (lv : Int32) (lo : Nat → Int32) (wd : Nat → Nat) (n : Nat) (d : Nat → Nat) (t : Nat) (g : Int32) (fx : Nat → Int64) : Prop :=
  (g = 0 ∧ (∀ i, t ≤ i → i < n → wk_ok wh lv i → d i = wd i) ∧ fx_ok wh lv lo n fx (rd_f t d)) ∨ (g = 1 ∧ ∃ j, j < n ∧ (wk_ok wh lv j ∧ d j < wd j) ∧ (∀ i, j + 1 ≤ i → i < n → wk_ok wh lv i → d i = wd i) ∧ fx_ok wh lv lo n fx (dn_f j d))
def dz_f (g : Int32) (n : Nat) (d : Nat → Nat) : Nat := if g = 0 then 0 else 2825761 - dm_f n d
section OZ
variable {wh lo hi : Nat → Int32} {lv g : Int32} {wd d : Nat → Nat} {n t : Nat} {fx f1 : Nat → Int64} {F : List (Nat → Int64)}
theorem oz_0 (hf : fx_ok wh lv lo n fx d) : oz_ok wh lv lo wd n d n 0 fx := Or.inl ⟨rfl, fun i h1 h2 => by omega, fx_ag hf (fun i hi => (if_pos hi).symm)⟩
theorem oz_g (h : oz_ok wh lv lo wd n d t g fx) (hg : g = 0) : (∀ i, t ≤ i → i < n → wk_ok wh lv i → d i = wd i) ∧ fx_ok wh lv lo n fx (rd_f t d) := by
  rcases h with ⟨-, h⟩ | ⟨h, -⟩
  · exact h
  · rw [hg] at h; exact absurd h (by decide)
theorem oz_n (h : oz_ok wh lv lo wd n d t g fx) (hg : g = 0) (hd : od_ok wh lv wd n d) (ht : 1 ≤ t ∧ t ≤ n) (hw : ¬ wk_ok wh lv (t - 1)) : oz_ok wh lv lo wd n d (t - 1) g fx := by
  obtain ⟨h1, h2⟩ := oz_g h hg
  refine Or.inl ⟨hg, fun i a b w => ?_, fx_ag h2 (fun i hi => ?_)⟩
  · by_cases e : i = t - 1
    · rw [e] at w; exact absurd w hw
    · exact h1 i (by omega) b w
  · unfold rd_f
    by_cases e : i = t - 1
    · rw [if_pos (by omega), if_neg (by omega), e]; exact (hd (t - 1) (by omega)).2 hw
    · by_cases e2 : i < t
      · rw [if_pos e2, if_pos (by omega)]
      · rw [if_neg e2, if_neg (by omega)]
theorem oz_n1 (h : oz_ok wh lv lo wd n d t g fx) (hg : g = 0) (hd : od_ok wh lv wd n d) (ht : 1 ≤ t ∧ t ≤ n) (hw : ¬ lv = 0) : oz_ok wh lv lo wd n d (t - 1) g fx := oz_n h hg hd ht (fun q => hw q.1)
theorem oz_n2 (h : oz_ok wh lv lo wd n d t g fx) (hg : g = 0) (hd : od_ok wh lv wd n d) (ht : 1 ≤ t ∧ t ≤ n) (hw : wh (t - 1) = 0) : oz_ok wh lv lo wd n d (t - 1) g fx := oz_n h hg hd ht (fun q => q.2 hw)
theorem oz_r (h : oz_ok wh lv lo wd n d t g fx) (hg : g = 0) (hb : wb_ok lo hi wd n) (hd : od_ok wh lv wd n d) (ht : 1 ≤ t ∧ t ≤ n) (h0 : lv = 0) (h1 : ¬ wh (t - 1) = 0) (hl : (hi (t - 1)).toInt64 ≤ fx (t - 1)) : oz_ok wh lv lo wd n d (t - 1) 0 (vp_updL fx (t - 1) (lo (t - 1)).toInt64) := by
  obtain ⟨a1, a2⟩ := oz_g h hg
  have w : wk_ok wh lv (t - 1) := ⟨h0, h1⟩
  have e0 := (a2 (t - 1) (by omega)).1 w
  have e1 : rd_f t d (t - 1) = d (t - 1) := if_pos (by omega)
  have b := hb (t - 1) (by omega)
  have l1 := Int64.le_iff_toInt_le.mp hl
  rw [Int32.toInt_toInt64, e0, e1] at l1
  have hdl := (hd (t - 1) (by omega)).1 w
  refine Or.inl ⟨rfl, fun i x y z => ?_, fun i hi => ?_⟩
  · by_cases e : i = t - 1
    · rw [e]; omega
    · exact a1 i (by omega) y z
  · by_cases e : i = t - 1
    · rw [e, pk_uLs]
      refine ⟨fun _ => ?_, fun z => absurd w z⟩
      rw [Int32.toInt_toInt64]; unfold rd_f; rw [if_neg (by omega)]; simp
    · rw [pk_uLn e]
      have := a2 i hi
      unfold rd_f at this ⊢
      by_cases e2 : i < t
      · rw [if_pos e2] at this; rw [if_pos (show i < t - 1 by omega)]; exact this
      · rw [if_neg e2] at this; rw [if_neg (show ¬ i < t - 1 by omega)]; exact this
theorem oz_u (h : oz_ok wh lv lo wd n d t g fx) (hg : g = 0) (hb : wb_ok lo hi wd n) (hd : od_ok wh lv wd n d) (ht : 1 ≤ t ∧ t ≤ n) (h0 : lv = 0) (h1 : ¬ wh (t - 1) = 0) (hl : ¬ (hi (t - 1)).toInt64 ≤ fx (t - 1)) : oz_ok wh lv lo wd n d (t - 1) 1 (vp_updL fx (t - 1) (fx (t - 1) + 1)) := by
  obtain ⟨a1, a2⟩ := oz_g h hg
  have w : wk_ok wh lv (t - 1) := ⟨h0, h1⟩
  have e0 := (a2 (t - 1) (by omega)).1 w
  have e1 : rd_f t d (t - 1) = d (t - 1) := if_pos (by omega)
  have b := hb (t - 1) (by omega)
  have l1 := Int64.lt_iff_toInt_lt.mp (mm_nle hl)
  rw [Int32.toInt_toInt64, e0, e1] at l1
  refine Or.inr ⟨rfl, t - 1, by omega, ⟨w, by omega⟩, fun i x y z => a1 i (by omega) y z, fun i hi => ?_⟩
  unfold dn_f
  by_cases e : i = t - 1
  · rw [e, pk_uLs, if_neg (by omega), if_pos rfl]
    refine ⟨fun _ => ?_, fun z => absurd w z⟩
    rw [Int64.toInt_add, e0, e1, show (1 : Int64).toInt = 1 by decide]
    rw [Int.bmod_eq_of_le (by omega) (by omega)]
    simp; omega
  · rw [pk_uLn e]
    have := a2 i hi
    unfold rd_f at this
    by_cases e2 : i < t
    · rw [if_pos e2] at this; rw [if_pos (show i < t - 1 by omega)]; exact this
    · rw [if_neg e2] at this; rw [if_neg (show ¬ i < t - 1 by omega), if_neg e]; exact this
theorem oz_out (h : oz_ok wh lv lo wd n d t g f1) (hend : t = 0 ∨ ¬ g = 0) (hn : n ≤ 4) (hb : wb_ok lo hi wd n) (hd : od_ok wh lv wd n d) (hf : fx_ok wh lv lo n fx d) (hv : vd_ok wh lv lo wd n F d) :
    ∃ d2, ((g = 0 ∧ vd_all wh lv lo wd n (F ++ [fx])) ∨ (g = 1 ∧ od_ok wh lv wd n d2 ∧ fx_ok wh lv lo n f1 d2 ∧ vd_ok wh lv lo wd n (F ++ [fx]) d2)) ∧ dz_f g n d2 < dz_f 1 n d := by
  have h40 := dm_lt (fun j hj => (hb j hj).2.1) hd
  have hbd := dm_b h40
  have c1 : dz_f 1 n d = 2825761 - dm_f n d := if_neg (by decide)
  rcases h with ⟨rfl, h1, h2⟩ | ⟨rfl, j, hj, hw, hm, hx⟩
  · have ht : t = 0 := hend.elim id (fun q => absurd rfl q)
    refine ⟨d, Or.inl ⟨rfl, vd_last hv hd hf (fun i _ hi w => h1 i (by omega) hi w)⟩, ?_⟩
    rw [c1, show dz_f 0 n d = 0 from if_pos rfl]; omega
  · have ho := dn_od hd hj hw.1 hw.2
    refine ⟨dn_f j d, Or.inr ⟨rfl, ho, hx, vd_next hv hd hf hj hm⟩, ?_⟩
    rw [c1, show dz_f 1 n (dn_f j d) = 2825761 - dm_f n (dn_f j d) from if_neg (by decide)]
    have := dm_up hn hj h40
    omega
end OZ
